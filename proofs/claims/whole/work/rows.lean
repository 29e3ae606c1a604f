section
-- ===== PART A: goes FIRST, ahead of the names: the tables' words, and 'selects' of the private methods out of them =====
/-- a private method of a class that the tables say can be made, by its rows of tables_1 -/
def lw_okq (q : MethodName × Nat) : Prop := (q.1.cls ≠ "java/lang/invoke/MethodHandle" ∧ q.1.cls ≠ "java/lang/invoke/VarHandle") ∧ Cond.instantiable q.1.cls q.2 ∈ tables_1 ∧ Cond.privateMethod q.1 ∈ tables_1 ∧ Cond.instanceMethod q.1 ∈ tables_1
theorem lw_p0 : lw_okq (⟨"DoorCases$Reader", "skipBlanks", "()V"⟩, 7) := ⟨⟨by decide +kernel, by decide +kernel⟩, List.mem_of_getElem? (i := 24) (by decide +kernel), List.mem_of_getElem? (i := 350) (by decide +kernel), List.mem_of_getElem? (i := 351) (by decide +kernel)⟩
theorem lw_p1 : lw_okq (⟨"DoorCases$Reader", "readItem", "(LDoorCases$House;)Z"⟩, 7) := ⟨⟨by decide +kernel, by decide +kernel⟩, List.mem_of_getElem? (i := 24) (by decide +kernel), List.mem_of_getElem? (i := 354) (by decide +kernel), List.mem_of_getElem? (i := 355) (by decide +kernel)⟩
theorem lw_p2 : lw_okq (⟨"DoorCases$Reader", "readRoom", "(LDoorCases$House;)Z"⟩, 7) := ⟨⟨by decide +kernel, by decide +kernel⟩, List.mem_of_getElem? (i := 24) (by decide +kernel), List.mem_of_getElem? (i := 358) (by decide +kernel), List.mem_of_getElem? (i := 359) (by decide +kernel)⟩
theorem lw_p3 : lw_okq (⟨"DoorCases$Reader", "failsAt", "(I)Z"⟩, 7) := ⟨⟨by decide +kernel, by decide +kernel⟩, List.mem_of_getElem? (i := 24) (by decide +kernel), List.mem_of_getElem? (i := 362) (by decide +kernel), List.mem_of_getElem? (i := 363) (by decide +kernel)⟩
theorem lw_p4 : lw_okq (⟨"DoorCases$Reader", "readNumber", "(II)I"⟩, 7) := ⟨⟨by decide +kernel, by decide +kernel⟩, List.mem_of_getElem? (i := 24) (by decide +kernel), List.mem_of_getElem? (i := 366) (by decide +kernel), List.mem_of_getElem? (i := 367) (by decide +kernel)⟩
theorem lw_p5 : lw_okq (⟨"DoorCases$Reader", "readEnd", "()Z"⟩, 7) := ⟨⟨by decide +kernel, by decide +kernel⟩, List.mem_of_getElem? (i := 24) (by decide +kernel), List.mem_of_getElem? (i := 376) (by decide +kernel), List.mem_of_getElem? (i := 377) (by decide +kernel)⟩
theorem lw_p6 : lw_okq (⟨"DoorCases$Reader", "readDoing", "(LDoorCases$House;)Z"⟩, 7) := ⟨⟨by decide +kernel, by decide +kernel⟩, List.mem_of_getElem? (i := 24) (by decide +kernel), List.mem_of_getElem? (i := 380) (by decide +kernel), List.mem_of_getElem? (i := 381) (by decide +kernel)⟩
theorem lw_p7 : lw_okq (⟨"DoorCases$Reader", "readSuspect", "(LDoorCases$House;)Z"⟩, 7) := ⟨⟨by decide +kernel, by decide +kernel⟩, List.mem_of_getElem? (i := 24) (by decide +kernel), List.mem_of_getElem? (i := 384) (by decide +kernel), List.mem_of_getElem? (i := 385) (by decide +kernel)⟩
theorem lw_p8 : lw_okq (⟨"DoorCases$Reader", "readCulprit", "(LDoorCases$House;)Z"⟩, 7) := ⟨⟨by decide +kernel, by decide +kernel⟩, List.mem_of_getElem? (i := 24) (by decide +kernel), List.mem_of_getElem? (i := 388) (by decide +kernel), List.mem_of_getElem? (i := 389) (by decide +kernel)⟩
theorem lw_p9 : lw_okq (⟨"DoorCases$Reader", "readWalk", "(LDoorCases$House;)Z"⟩, 7) := ⟨⟨by decide +kernel, by decide +kernel⟩, List.mem_of_getElem? (i := 24) (by decide +kernel), List.mem_of_getElem? (i := 392) (by decide +kernel), List.mem_of_getElem? (i := 393) (by decide +kernel)⟩
theorem lw_p10 : lw_okq (⟨"DoorCases$Reader", "readNight", "(LDoorCases$House;)Z"⟩, 7) := ⟨⟨by decide +kernel, by decide +kernel⟩, List.mem_of_getElem? (i := 24) (by decide +kernel), List.mem_of_getElem? (i := 396) (by decide +kernel), List.mem_of_getElem? (i := 397) (by decide +kernel)⟩
theorem lw_p11 : lw_okq (⟨"DoorCases$Exits", "solveLevel", "(I)V"⟩, 7) := ⟨⟨by decide +kernel, by decide +kernel⟩, List.mem_of_getElem? (i := 198) (by decide +kernel), List.mem_of_getElem? (i := 513) (by decide +kernel), List.mem_of_getElem? (i := 514) (by decide +kernel)⟩
theorem lw_p12 : lw_okq (⟨"DoorCases$Exits", "costThrough", "(III)I"⟩, 7) := ⟨⟨by decide +kernel, by decide +kernel⟩, List.mem_of_getElem? (i := 198) (by decide +kernel), List.mem_of_getElem? (i := 520) (by decide +kernel), List.mem_of_getElem? (i := 521) (by decide +kernel)⟩
theorem lw_p13 : lw_okq (⟨"DoorCases$Exits", "costNow", "()I"⟩, 7) := ⟨⟨by decide +kernel, by decide +kernel⟩, List.mem_of_getElem? (i := 198) (by decide +kernel), List.mem_of_getElem? (i := 529) (by decide +kernel), List.mem_of_getElem? (i := 530) (by decide +kernel)⟩
theorem lw_p14 : lw_okq (⟨"DoorCases$Exits", "firstOfBest", "(II)I"⟩, 7) := ⟨⟨by decide +kernel, by decide +kernel⟩, List.mem_of_getElem? (i := 198) (by decide +kernel), List.mem_of_getElem? (i := 546) (by decide +kernel), List.mem_of_getElem? (i := 547) (by decide +kernel)⟩
theorem lw_p15 : lw_okq (⟨"DoorCases$Evening", "extend", "(LDoorCases$House;IIIII)V"⟩, 7) := ⟨⟨by decide +kernel, by decide +kernel⟩, List.mem_of_getElem? (i := 227) (by decide +kernel), List.mem_of_getElem? (i := 571) (by decide +kernel), List.mem_of_getElem? (i := 572) (by decide +kernel)⟩
def lw_privs_1 : List (MethodName × Nat) := [(⟨"DoorCases$Reader", "skipBlanks", "()V"⟩, 7), (⟨"DoorCases$Reader", "readItem", "(LDoorCases$House;)Z"⟩, 7), (⟨"DoorCases$Reader", "readRoom", "(LDoorCases$House;)Z"⟩, 7), (⟨"DoorCases$Reader", "failsAt", "(I)Z"⟩, 7), (⟨"DoorCases$Reader", "readNumber", "(II)I"⟩, 7), (⟨"DoorCases$Reader", "readEnd", "()Z"⟩, 7), (⟨"DoorCases$Reader", "readDoing", "(LDoorCases$House;)Z"⟩, 7), (⟨"DoorCases$Reader", "readSuspect", "(LDoorCases$House;)Z"⟩, 7), (⟨"DoorCases$Reader", "readCulprit", "(LDoorCases$House;)Z"⟩, 7), (⟨"DoorCases$Reader", "readWalk", "(LDoorCases$House;)Z"⟩, 7), (⟨"DoorCases$Reader", "readNight", "(LDoorCases$House;)Z"⟩, 7), (⟨"DoorCases$Exits", "solveLevel", "(I)V"⟩, 7), (⟨"DoorCases$Exits", "costThrough", "(III)I"⟩, 7), (⟨"DoorCases$Exits", "costNow", "()I"⟩, 7), (⟨"DoorCases$Exits", "firstOfBest", "(II)I"⟩, 7), (⟨"DoorCases$Evening", "extend", "(LDoorCases$House;IIIII)V"⟩, 7)]
theorem lw_r1 : ∀ q ∈ lw_privs_1, lw_okq q := List.forall_mem_cons.mpr ⟨lw_p0, List.forall_mem_cons.mpr ⟨lw_p1, List.forall_mem_cons.mpr ⟨lw_p2, List.forall_mem_cons.mpr ⟨lw_p3, List.forall_mem_cons.mpr ⟨lw_p4, List.forall_mem_cons.mpr ⟨lw_p5, List.forall_mem_cons.mpr ⟨lw_p6, List.forall_mem_cons.mpr ⟨lw_p7, List.forall_mem_cons.mpr ⟨lw_p8, List.forall_mem_cons.mpr ⟨lw_p9, List.forall_mem_cons.mpr ⟨lw_p10, List.forall_mem_cons.mpr ⟨lw_p11, List.forall_mem_cons.mpr ⟨lw_p12, List.forall_mem_cons.mpr ⟨lw_p13, List.forall_mem_cons.mpr ⟨lw_p14, List.forall_mem_cons.mpr ⟨lw_p15, fun _ h => absurd h List.not_mem_nil⟩⟩⟩⟩⟩⟩⟩⟩⟩⟩⟩⟩⟩⟩⟩⟩
theorem lw_p16 : lw_okq (⟨"DoorCases$Evening", "weigh", "(III)V"⟩, 7) := ⟨⟨by decide +kernel, by decide +kernel⟩, List.mem_of_getElem? (i := 227) (by decide +kernel), List.mem_of_getElem? (i := 576) (by decide +kernel), List.mem_of_getElem? (i := 577) (by decide +kernel)⟩
theorem lw_p17 : lw_okq (⟨"DoorCases$Inquiry", "neededOf", "(I)I"⟩, 2) := ⟨⟨by decide +kernel, by decide +kernel⟩, List.mem_of_getElem? (i := 259) (by decide +kernel), List.mem_of_getElem? (i := 615) (by decide +kernel), List.mem_of_getElem? (i := 616) (by decide +kernel)⟩
theorem lw_p18 : lw_okq (⟨"DoorCases", "countChances", "(II)I"⟩, 13) := ⟨⟨by decide +kernel, by decide +kernel⟩, List.mem_of_getElem? (i := 16) (by decide +kernel), List.mem_of_getElem? (i := 649) (by decide +kernel), List.mem_of_getElem? (i := 650) (by decide +kernel)⟩
theorem lw_p19 : lw_okq (⟨"DoorCases", "rateAs", "(II)I"⟩, 13) := ⟨⟨by decide +kernel, by decide +kernel⟩, List.mem_of_getElem? (i := 16) (by decide +kernel), List.mem_of_getElem? (i := 661) (by decide +kernel), List.mem_of_getElem? (i := 662) (by decide +kernel)⟩
theorem lw_p20 : lw_okq (⟨"DoorCasesModel", "begins", "()V"⟩, 30) := ⟨⟨by decide +kernel, by decide +kernel⟩, List.mem_of_getElem? (i := 686) (by decide +kernel), List.mem_of_getElem? (i := 692) (by decide +kernel), List.mem_of_getElem? (i := 693) (by decide +kernel)⟩
theorem lw_p21 : lw_okq (⟨"DoorCasesModel", "settles", "()V"⟩, 30) := ⟨⟨by decide +kernel, by decide +kernel⟩, List.mem_of_getElem? (i := 686) (by decide +kernel), List.mem_of_getElem? (i := 696) (by decide +kernel), List.mem_of_getElem? (i := 697) (by decide +kernel)⟩
theorem lw_p22 : lw_okq (⟨"DoorCasesModel", "advances", "()V"⟩, 30) := ⟨⟨by decide +kernel, by decide +kernel⟩, List.mem_of_getElem? (i := 686) (by decide +kernel), List.mem_of_getElem? (i := 807) (by decide +kernel), List.mem_of_getElem? (i := 808) (by decide +kernel)⟩
theorem lw_p23 : lw_okq (⟨"DoorCasesModel", "letterAt", "(I)I"⟩, 30) := ⟨⟨by decide +kernel, by decide +kernel⟩, List.mem_of_getElem? (i := 686) (by decide +kernel), List.mem_of_getElem? (i := 811) (by decide +kernel), List.mem_of_getElem? (i := 812) (by decide +kernel)⟩
theorem lw_p24 : lw_okq (⟨"DoorCasesModel", "isWell", "()Z"⟩, 30) := ⟨⟨by decide +kernel, by decide +kernel⟩, List.mem_of_getElem? (i := 686) (by decide +kernel), List.mem_of_getElem? (i := 818) (by decide +kernel), List.mem_of_getElem? (i := 819) (by decide +kernel)⟩
theorem lw_p25 : lw_okq (⟨"DoorCasesModel", "mayBegin", "()Z"⟩, 30) := ⟨⟨by decide +kernel, by decide +kernel⟩, List.mem_of_getElem? (i := 686) (by decide +kernel), List.mem_of_getElem? (i := 822) (by decide +kernel), List.mem_of_getElem? (i := 823) (by decide +kernel)⟩
theorem lw_p26 : lw_okq (⟨"DoorCasesModel", "takes", "(Z)I"⟩, 30) := ⟨⟨by decide +kernel, by decide +kernel⟩, List.mem_of_getElem? (i := 686) (by decide +kernel), List.mem_of_getElem? (i := 829) (by decide +kernel), List.mem_of_getElem? (i := 830) (by decide +kernel)⟩
theorem lw_p27 : lw_okq (⟨"DoorCasesModel", "readsItem", "(I)V"⟩, 30) := ⟨⟨by decide +kernel, by decide +kernel⟩, List.mem_of_getElem? (i := 686) (by decide +kernel), List.mem_of_getElem? (i := 833) (by decide +kernel), List.mem_of_getElem? (i := 834) (by decide +kernel)⟩
theorem lw_p28 : lw_okq (⟨"DoorCasesModel", "number", "(II)I"⟩, 30) := ⟨⟨by decide +kernel, by decide +kernel⟩, List.mem_of_getElem? (i := 686) (by decide +kernel), List.mem_of_getElem? (i := 837) (by decide +kernel), List.mem_of_getElem? (i := 838) (by decide +kernel)⟩
theorem lw_p29 : lw_okq (⟨"DoorCasesModel", "isRoom", "(I)Z"⟩, 30) := ⟨⟨by decide +kernel, by decide +kernel⟩, List.mem_of_getElem? (i := 686) (by decide +kernel), List.mem_of_getElem? (i := 845) (by decide +kernel), List.mem_of_getElem? (i := 846) (by decide +kernel)⟩
theorem lw_p30 : lw_okq (⟨"DoorCasesModel", "isSolved", "(I)Z"⟩, 30) := ⟨⟨by decide +kernel, by decide +kernel⟩, List.mem_of_getElem? (i := 686) (by decide +kernel), List.mem_of_getElem? (i := 850) (by decide +kernel), List.mem_of_getElem? (i := 851) (by decide +kernel)⟩
theorem lw_p31 : lw_okq (⟨"DoorCasesModel", "isDoing", "(I)Z"⟩, 30) := ⟨⟨by decide +kernel, by decide +kernel⟩, List.mem_of_getElem? (i := 686) (by decide +kernel), List.mem_of_getElem? (i := 858) (by decide +kernel), List.mem_of_getElem? (i := 859) (by decide +kernel)⟩
def lw_privs_2 : List (MethodName × Nat) := [(⟨"DoorCases$Evening", "weigh", "(III)V"⟩, 7), (⟨"DoorCases$Inquiry", "neededOf", "(I)I"⟩, 2), (⟨"DoorCases", "countChances", "(II)I"⟩, 13), (⟨"DoorCases", "rateAs", "(II)I"⟩, 13), (⟨"DoorCasesModel", "begins", "()V"⟩, 30), (⟨"DoorCasesModel", "settles", "()V"⟩, 30), (⟨"DoorCasesModel", "advances", "()V"⟩, 30), (⟨"DoorCasesModel", "letterAt", "(I)I"⟩, 30), (⟨"DoorCasesModel", "isWell", "()Z"⟩, 30), (⟨"DoorCasesModel", "mayBegin", "()Z"⟩, 30), (⟨"DoorCasesModel", "takes", "(Z)I"⟩, 30), (⟨"DoorCasesModel", "readsItem", "(I)V"⟩, 30), (⟨"DoorCasesModel", "number", "(II)I"⟩, 30), (⟨"DoorCasesModel", "isRoom", "(I)Z"⟩, 30), (⟨"DoorCasesModel", "isSolved", "(I)Z"⟩, 30), (⟨"DoorCasesModel", "isDoing", "(I)Z"⟩, 30)]
theorem lw_r2 : ∀ q ∈ lw_privs_2, lw_okq q := List.forall_mem_cons.mpr ⟨lw_p16, List.forall_mem_cons.mpr ⟨lw_p17, List.forall_mem_cons.mpr ⟨lw_p18, List.forall_mem_cons.mpr ⟨lw_p19, List.forall_mem_cons.mpr ⟨lw_p20, List.forall_mem_cons.mpr ⟨lw_p21, List.forall_mem_cons.mpr ⟨lw_p22, List.forall_mem_cons.mpr ⟨lw_p23, List.forall_mem_cons.mpr ⟨lw_p24, List.forall_mem_cons.mpr ⟨lw_p25, List.forall_mem_cons.mpr ⟨lw_p26, List.forall_mem_cons.mpr ⟨lw_p27, List.forall_mem_cons.mpr ⟨lw_p28, List.forall_mem_cons.mpr ⟨lw_p29, List.forall_mem_cons.mpr ⟨lw_p30, List.forall_mem_cons.mpr ⟨lw_p31, fun _ h => absurd h List.not_mem_nil⟩⟩⟩⟩⟩⟩⟩⟩⟩⟩⟩⟩⟩⟩⟩⟩
theorem lw_p32 : lw_okq (⟨"DoorCasesModel", "earned", "()I"⟩, 30) := ⟨⟨by decide +kernel, by decide +kernel⟩, List.mem_of_getElem? (i := 686) (by decide +kernel), List.mem_of_getElem? (i := 870) (by decide +kernel), List.mem_of_getElem? (i := 871) (by decide +kernel)⟩
theorem lw_p33 : lw_okq (⟨"DoorCasesModel", "left", "()I"⟩, 30) := ⟨⟨by decide +kernel, by decide +kernel⟩, List.mem_of_getElem? (i := 686) (by decide +kernel), List.mem_of_getElem? (i := 874) (by decide +kernel), List.mem_of_getElem? (i := 875) (by decide +kernel)⟩
theorem lw_p34 : lw_okq (⟨"DoorCasesModel", "walk", "(II)I"⟩, 30) := ⟨⟨by decide +kernel, by decide +kernel⟩, List.mem_of_getElem? (i := 686) (by decide +kernel), List.mem_of_getElem? (i := 882) (by decide +kernel), List.mem_of_getElem? (i := 883) (by decide +kernel)⟩
theorem lw_p35 : lw_okq (⟨"DoorCasesModel", "mayLast", "(I)Z"⟩, 30) := ⟨⟨by decide +kernel, by decide +kernel⟩, List.mem_of_getElem? (i := 686) (by decide +kernel), List.mem_of_getElem? (i := 886) (by decide +kernel), List.mem_of_getElem? (i := 887) (by decide +kernel)⟩
theorem lw_p36 : lw_okq (⟨"DoorCasesModel", "notes", "()V"⟩, 30) := ⟨⟨by decide +kernel, by decide +kernel⟩, List.mem_of_getElem? (i := 686) (by decide +kernel), List.mem_of_getElem? (i := 890) (by decide +kernel), List.mem_of_getElem? (i := 891) (by decide +kernel)⟩
theorem lw_p37 : lw_okq (⟨"DoorCasesModel", "hurt", "(III)I"⟩, 30) := ⟨⟨by decide +kernel, by decide +kernel⟩, List.mem_of_getElem? (i := 686) (by decide +kernel), List.mem_of_getElem? (i := 898) (by decide +kernel), List.mem_of_getElem? (i := 899) (by decide +kernel)⟩
theorem lw_p38 : lw_okq (⟨"DoorCasesModel", "soonAt", "(I)I"⟩, 30) := ⟨⟨by decide +kernel, by decide +kernel⟩, List.mem_of_getElem? (i := 686) (by decide +kernel), List.mem_of_getElem? (i := 914) (by decide +kernel), List.mem_of_getElem? (i := 915) (by decide +kernel)⟩
theorem lw_p39 : lw_okq (⟨"DoorCasesModel", "measures", "(I)V"⟩, 30) := ⟨⟨by decide +kernel, by decide +kernel⟩, List.mem_of_getElem? (i := 686) (by decide +kernel), List.mem_of_getElem? (i := 918) (by decide +kernel), List.mem_of_getElem? (i := 919) (by decide +kernel)⟩
theorem lw_p40 : lw_okq (⟨"DoorCasesModel", "soonBy", "(IIII)I"⟩, 30) := ⟨⟨by decide +kernel, by decide +kernel⟩, List.mem_of_getElem? (i := 686) (by decide +kernel), List.mem_of_getElem? (i := 923) (by decide +kernel), List.mem_of_getElem? (i := 924) (by decide +kernel)⟩
theorem lw_p41 : lw_okq (⟨"DoorCasesModel", "gathers", "()V"⟩, 30) := ⟨⟨by decide +kernel, by decide +kernel⟩, List.mem_of_getElem? (i := 686) (by decide +kernel), List.mem_of_getElem? (i := 935) (by decide +kernel), List.mem_of_getElem? (i := 936) (by decide +kernel)⟩
theorem lw_p42 : lw_okq (⟨"DoorCasesModel", "rowOf", "(I)I"⟩, 30) := ⟨⟨by decide +kernel, by decide +kernel⟩, List.mem_of_getElem? (i := 686) (by decide +kernel), List.mem_of_getElem? (i := 939) (by decide +kernel), List.mem_of_getElem? (i := 940) (by decide +kernel)⟩
theorem lw_p43 : lw_okq (⟨"DoorCasesModel", "having", "(II)I"⟩, 30) := ⟨⟨by decide +kernel, by decide +kernel⟩, List.mem_of_getElem? (i := 686) (by decide +kernel), List.mem_of_getElem? (i := 954) (by decide +kernel), List.mem_of_getElem? (i := 955) (by decide +kernel)⟩
def lw_privs_3 : List (MethodName × Nat) := [(⟨"DoorCasesModel", "earned", "()I"⟩, 30), (⟨"DoorCasesModel", "left", "()I"⟩, 30), (⟨"DoorCasesModel", "walk", "(II)I"⟩, 30), (⟨"DoorCasesModel", "mayLast", "(I)Z"⟩, 30), (⟨"DoorCasesModel", "notes", "()V"⟩, 30), (⟨"DoorCasesModel", "hurt", "(III)I"⟩, 30), (⟨"DoorCasesModel", "soonAt", "(I)I"⟩, 30), (⟨"DoorCasesModel", "measures", "(I)V"⟩, 30), (⟨"DoorCasesModel", "soonBy", "(IIII)I"⟩, 30), (⟨"DoorCasesModel", "gathers", "()V"⟩, 30), (⟨"DoorCasesModel", "rowOf", "(I)I"⟩, 30), (⟨"DoorCasesModel", "having", "(II)I"⟩, 30)]
theorem lw_r3 : ∀ q ∈ lw_privs_3, lw_okq q := List.forall_mem_cons.mpr ⟨lw_p32, List.forall_mem_cons.mpr ⟨lw_p33, List.forall_mem_cons.mpr ⟨lw_p34, List.forall_mem_cons.mpr ⟨lw_p35, List.forall_mem_cons.mpr ⟨lw_p36, List.forall_mem_cons.mpr ⟨lw_p37, List.forall_mem_cons.mpr ⟨lw_p38, List.forall_mem_cons.mpr ⟨lw_p39, List.forall_mem_cons.mpr ⟨lw_p40, List.forall_mem_cons.mpr ⟨lw_p41, List.forall_mem_cons.mpr ⟨lw_p42, List.forall_mem_cons.mpr ⟨lw_p43, fun _ h => absurd h List.not_mem_nil⟩⟩⟩⟩⟩⟩⟩⟩⟩⟩⟩⟩
def lw_privs : List (MethodName × Nat) := lw_privs_1 ++ (lw_privs_2 ++ (lw_privs_3))
def lw_tbl : List Cond := k2_sels lw_privs ++ tables_1
theorem lw_privs_ok : ∀ q ∈ lw_privs, lw_okq q := by
  show ∀ q ∈ lw_privs_1 ++ (lw_privs_2 ++ (lw_privs_3)), lw_okq q
  exact List.forall_mem_append.mpr ⟨lw_r1, List.forall_mem_append.mpr ⟨lw_r2, lw_r3⟩⟩
end
section
def RX0 : String := "DoorCases$Evening"
def TX0 : u_T := fun k => match k with
  | 0 => ("DoorCases$Evening", "best", "[I", true)
  | 1 => ("DoorCases$Evening", "bestSize", "I", false)
  | 2 => ("DoorCases$Evening", "bestWorth", "I", false)
  | 3 => ("DoorCases$Evening", "bestMinutes", "I", false)
  | 4 => ("DoorCases$Evening", "row", "[I", true)
  | 5 => ("DoorCases$Evening", "minutesOut", "[I", true)
  | _ => ("DoorCases$Evening", "minutesLeft", "I", false)
def tyX0 : Nat → FieldType := fun k => match k with
  | 0 => .array .int
  | 1 => .int
  | 2 => .int
  | 3 => .int
  | 4 => .array .int
  | 5 => .array .int
  | _ => .int
abbrev wsX00 : List Cond := u_ws RX0 TX0 7
theorem nmX0 : ∀ a, a < 7 → ∀ b, b < 7 → a ≠ b → (TX0 a).2.1 ≠ (TX0 b).2.1 := by decide +kernel
theorem tyX0_ok : ∀ k, k < 7 → parseFieldDescriptor (TX0 k).2.2.1 = some (tyX0 k) := by decide +kernel
abbrev cX0_init : ByteArray := prog_2_method_1_code
def yX0_init : MethodName := ⟨RX0, "<init>", "()V"⟩
abbrev cX0_plan : ByteArray := prog_2_method_2_code
def yX0_plan : MethodName := ⟨RX0, "plan", "(LDoorCases$House;LDoorCases$Scene;[I)V"⟩
abbrev cX0_extend : ByteArray := prog_2_method_3_code
def yX0_extend : MethodName := ⟨RX0, "extend", "(LDoorCases$House;IIIII)V"⟩
abbrev cX0_weigh : ByteArray := prog_2_method_4_code
def yX0_weigh : MethodName := ⟨RX0, "weigh", "(III)V"⟩
def RX1 : String := "DoorCases$Exits"
def TX1 : u_T := fun k => match k with
  | 0 => ("DoorCases$Exits", "cost", "[I", true)
  | 1 => ("DoorCases$Exits", "minutesOut", "[I", true)
  | 2 => ("DoorCases$Exits", "doings", "I", false)
  | 3 => ("DoorCases$Exits", "full", "[I", true)
  | 4 => ("DoorCases$Exits", "takes", "[I", true)
  | 5 => ("DoorCases$Exits", "feeling", "I", false)
  | _ => ("DoorCases$Exits", "last", "I", false)
def tyX1 : Nat → FieldType := fun k => match k with
  | 0 => .array .int
  | 1 => .array .int
  | 2 => .int
  | 3 => .array .int
  | 4 => .array .int
  | 5 => .int
  | _ => .int
abbrev wsX10 : List Cond := u_ws RX1 TX1 7
theorem nmX1 : ∀ a, a < 7 → ∀ b, b < 7 → a ≠ b → (TX1 a).2.1 ≠ (TX1 b).2.1 := by decide +kernel
theorem tyX1_ok : ∀ k, k < 7 → parseFieldDescriptor (TX1 k).2.2.1 = some (tyX1 k) := by decide +kernel
abbrev cX1_init : ByteArray := prog_3_method_1_code
def yX1_init : MethodName := ⟨RX1, "<init>", "()V"⟩
abbrev cX1_solve : ByteArray := prog_3_method_2_code
def yX1_solve : MethodName := ⟨RX1, "solve", "(LDoorCases$House;LDoorCases$Scene;I)V"⟩
abbrev cX1_solveLevel : ByteArray := prog_3_method_3_code
def yX1_solveLevel : MethodName := ⟨RX1, "solveLevel", "(I)V"⟩
abbrev cX1_indexOf : ByteArray := prog_3_method_4_code
def yX1_indexOf : MethodName := ⟨RX1, "indexOf", "(II)I"⟩
abbrev cX1_costThrough : ByteArray := prog_3_method_5_code
def yX1_costThrough : MethodName := ⟨RX1, "costThrough", "(III)I"⟩
abbrev cX1_costNow : ByteArray := prog_3_method_6_code
def yX1_costNow : MethodName := ⟨RX1, "costNow", "()I"⟩
abbrev cX1_isNever : ByteArray := prog_3_method_7_code
def yX1_isNever : MethodName := ⟨RX1, "isNever", "()Z"⟩
abbrev cX1_minutesNeeded : ByteArray := prog_3_method_8_code
def yX1_minutesNeeded : MethodName := ⟨RX1, "minutesNeeded", "()I"⟩
abbrev cX1_doingsNeeded : ByteArray := prog_3_method_9_code
def yX1_doingsNeeded : MethodName := ⟨RX1, "doingsNeeded", "()I"⟩
abbrev cX1_doingAt : ByteArray := prog_3_method_10_code
def yX1_doingAt : MethodName := ⟨RX1, "doingAt", "(I)I"⟩
abbrev cX1_firstOfBest : ByteArray := prog_3_method_11_code
def yX1_firstOfBest : MethodName := ⟨RX1, "firstOfBest", "(II)I"⟩
abbrev cX1_solveAll : ByteArray := prog_3_method_12_code
def yX1_solveAll : MethodName := ⟨RX1, "solveAll", "(LDoorCases$House;LDoorCases$Scene;)V"⟩
abbrev cX1_cheapestBut : ByteArray := prog_3_method_13_code
def yX1_cheapestBut : MethodName := ⟨RX1, "cheapestBut", "(I)I"⟩
def RX2 : String := "DoorCases$House"
def TX2 : u_T := fun k => match k with
  | 0 => ("DoorCases$House", "rooms", "I", false)
  | 1 => ("DoorCases$House", "feeling", "[I", true)
  | 2 => ("DoorCases$House", "temper", "[I", true)
  | 3 => ("DoorCases$House", "worth", "[I", true)
  | 4 => ("DoorCases$House", "doings", "I", false)
  | 5 => ("DoorCases$House", "rude", "[I", true)
  | 6 => ("DoorCases$House", "takes", "[I", true)
  | 7 => ("DoorCases$House", "suspects", "I", false)
  | 8 => ("DoorCases$House", "traits", "[I", true)
  | 9 => ("DoorCases$House", "culprit", "I", false)
  | 10 => ("DoorCases$House", "walk", "I", false)
  | _ => ("DoorCases$House", "night", "I", false)
def tyX2 : Nat → FieldType := fun k => match k with
  | 0 => .int
  | 1 => .array .int
  | 2 => .array .int
  | 3 => .array .int
  | 4 => .int
  | 5 => .array .int
  | 6 => .array .int
  | 7 => .int
  | 8 => .array .int
  | 9 => .int
  | 10 => .int
  | _ => .int
abbrev wsX20 : List Cond := u_ws RX2 TX2 12
theorem nmX2 : ∀ a, a < 12 → ∀ b, b < 12 → a ≠ b → (TX2 a).2.1 ≠ (TX2 b).2.1 := by decide +kernel
theorem tyX2_ok : ∀ k, k < 12 → parseFieldDescriptor (TX2 k).2.2.1 = some (tyX2 k) := by decide +kernel
abbrev cX2_init : ByteArray := prog_4_method_1_code
def yX2_init : MethodName := ⟨RX2, "<init>", "()V"⟩
abbrev cX2_tellNothing : ByteArray := prog_4_method_2_code
def yX2_tellNothing : MethodName := ⟨RX2, "tellNothing", "()V"⟩
abbrev cX2_hasRoom : ByteArray := prog_4_method_3_code
def yX2_hasRoom : MethodName := ⟨RX2, "hasRoom", "(I)Z"⟩
abbrev cX2_hasDoing : ByteArray := prog_4_method_4_code
def yX2_hasDoing : MethodName := ⟨RX2, "hasDoing", "(I)Z"⟩
abbrev cX2_walkBetween : ByteArray := prog_4_method_5_code
def yX2_walkBetween : MethodName := ⟨RX2, "walkBetween", "(II)I"⟩
abbrev cX2_fullLoss : ByteArray := prog_4_method_6_code
def yX2_fullLoss : MethodName := ⟨RX2, "fullLoss", "(II)I"⟩
def RX3 : String := "DoorCases$Inquiry"
def TX3 : u_T := fun k => match k with
  | 0 => ("DoorCases$Inquiry", "needed", "[I", true)
  | _ => ("DoorCases$Inquiry", "having", "[I", true)
def tyX3 : Nat → FieldType := fun k => match k with
  | 0 => .array .int
  | _ => .array .int
abbrev wsX30 : List Cond := u_ws RX3 TX3 2
theorem nmX3 : ∀ a, a < 2 → ∀ b, b < 2 → a ≠ b → (TX3 a).2.1 ≠ (TX3 b).2.1 := by decide +kernel
theorem tyX3_ok : ∀ k, k < 2 → parseFieldDescriptor (TX3 k).2.2.1 = some (tyX3 k) := by decide +kernel
abbrev cX3_init : ByteArray := prog_5_method_1_code
def yX3_init : MethodName := ⟨RX3, "<init>", "()V"⟩
abbrev cX3_leftOf : ByteArray := prog_5_method_2_code
def yX3_leftOf : MethodName := ⟨RX3, "leftOf", "(LDoorCases$House;I)I"⟩
abbrev cX3_withTrait : ByteArray := prog_5_method_3_code
def yX3_withTrait : MethodName := ⟨RX3, "withTrait", "(LDoorCases$House;I)I"⟩
abbrev cX3_bestTrait : ByteArray := prog_5_method_4_code
def yX3_bestTrait : MethodName := ⟨RX3, "bestTrait", "(LDoorCases$House;I)I"⟩
abbrev cX3_mostNeeded : ByteArray := prog_5_method_5_code
def yX3_mostNeeded : MethodName := ⟨RX3, "mostNeeded", "(LDoorCases$House;I)I"⟩
abbrev cX3_neededOf : ByteArray := prog_5_method_6_code
def yX3_neededOf : MethodName := ⟨RX3, "neededOf", "(I)I"⟩
def RX4 : String := "DoorCases$Memory"
def TX4 : u_T := fun k => match k with
  | 0 => ("DoorCases$Memory", "doing", "[I", true)
  | 1 => ("DoorCases$Memory", "loss", "[I", true)
  | _ => ("DoorCases$Memory", "size", "I", false)
def tyX4 : Nat → FieldType := fun k => match k with
  | 0 => .array .int
  | 1 => .array .int
  | _ => .int
abbrev wsX40 : List Cond := u_ws RX4 TX4 3
theorem nmX4 : ∀ a, a < 3 → ∀ b, b < 3 → a ≠ b → (TX4 a).2.1 ≠ (TX4 b).2.1 := by decide +kernel
theorem tyX4_ok : ∀ k, k < 3 → parseFieldDescriptor (TX4 k).2.2.1 = some (tyX4 k) := by decide +kernel
abbrev cX4_init : ByteArray := prog_6_method_1_code
def yX4_init : MethodName := ⟨RX4, "<init>", "()V"⟩
abbrev cX4_add : ByteArray := prog_6_method_2_code
def yX4_add : MethodName := ⟨RX4, "add", "(II)V"⟩
abbrev cX4_agreesWith : ByteArray := prog_6_method_3_code
def yX4_agreesWith : MethodName := ⟨RX4, "agreesWith", "(LDoorCases$House;I)Z"⟩
def RX5 : String := "DoorCases$Past"
def TX5 : u_T := fun k => match k with
  | 0 => ("DoorCases$Past", "scenes", "[LDoorCases$Scene;", true)
  | 1 => ("DoorCases$Past", "top", "I", false)
  | _ => ("DoorCases$Past", "size", "I", false)
def tyX5 : Nat → FieldType := fun k => match k with
  | 0 => .array (.object "DoorCases$Scene")
  | 1 => .int
  | _ => .int
abbrev wsX50 : List Cond := u_ws RX5 TX5 3
theorem nmX5 : ∀ a, a < 3 → ∀ b, b < 3 → a ≠ b → (TX5 a).2.1 ≠ (TX5 b).2.1 := by decide +kernel
theorem tyX5_ok : ∀ k, k < 3 → parseFieldDescriptor (TX5 k).2.2.1 = some (tyX5 k) := by decide +kernel
abbrev cX5_init : ByteArray := prog_7_method_1_code
def yX5_init : MethodName := ⟨RX5, "<init>", "()V"⟩
abbrev cX5_lose : ByteArray := prog_7_method_2_code
def yX5_lose : MethodName := ⟨RX5, "lose", "()V"⟩
abbrev cX5_remember : ByteArray := prog_7_method_3_code
def yX5_remember : MethodName := ⟨RX5, "remember", "(LDoorCases$Scene;)V"⟩
abbrev cX5_restore : ByteArray := prog_7_method_4_code
def yX5_restore : MethodName := ⟨RX5, "restore", "(LDoorCases$Scene;)V"⟩
def RX6 : String := "DoorCases$Reader"
def TX6 : u_T := fun k => match k with
  | 0 => ("DoorCases$Reader", "letters", "[I", true)
  | 1 => ("DoorCases$Reader", "length", "I", false)
  | 2 => ("DoorCases$Reader", "fault", "I", false)
  | 3 => ("DoorCases$Reader", "at", "I", false)
  | 4 => ("DoorCases$Reader", "culpritTold", "Z", false)
  | 5 => ("DoorCases$Reader", "walkTold", "Z", false)
  | _ => ("DoorCases$Reader", "nightTold", "Z", false)
def tyX6 : Nat → FieldType := fun k => match k with
  | 0 => .array .int
  | 1 => .int
  | 2 => .int
  | 3 => .int
  | 4 => .boolean
  | 5 => .boolean
  | _ => .boolean
abbrev wsX60 : List Cond := u_ws RX6 TX6 7
theorem nmX6 : ∀ a, a < 7 → ∀ b, b < 7 → a ≠ b → (TX6 a).2.1 ≠ (TX6 b).2.1 := by decide +kernel
theorem tyX6_ok : ∀ k, k < 7 → parseFieldDescriptor (TX6 k).2.2.1 = some (tyX6 k) := by decide +kernel
abbrev cX6_init : ByteArray := prog_8_method_1_code
def yX6_init : MethodName := ⟨RX6, "<init>", "()V"⟩
abbrev cX6_add : ByteArray := prog_8_method_2_code
def yX6_add : MethodName := ⟨RX6, "add", "(I)V"⟩
abbrev cX6_readInto : ByteArray := prog_8_method_3_code
def yX6_readInto : MethodName := ⟨RX6, "readInto", "(LDoorCases$House;)I"⟩
abbrev cX6_readItem : ByteArray := prog_8_method_4_code
def yX6_readItem : MethodName := ⟨RX6, "readItem", "(LDoorCases$House;)Z"⟩
abbrev cX6_readRoom : ByteArray := prog_8_method_5_code
def yX6_readRoom : MethodName := ⟨RX6, "readRoom", "(LDoorCases$House;)Z"⟩
abbrev cX6_readDoing : ByteArray := prog_8_method_6_code
def yX6_readDoing : MethodName := ⟨RX6, "readDoing", "(LDoorCases$House;)Z"⟩
abbrev cX6_readSuspect : ByteArray := prog_8_method_7_code
def yX6_readSuspect : MethodName := ⟨RX6, "readSuspect", "(LDoorCases$House;)Z"⟩
abbrev cX6_readCulprit : ByteArray := prog_8_method_8_code
def yX6_readCulprit : MethodName := ⟨RX6, "readCulprit", "(LDoorCases$House;)Z"⟩
abbrev cX6_readWalk : ByteArray := prog_8_method_9_code
def yX6_readWalk : MethodName := ⟨RX6, "readWalk", "(LDoorCases$House;)Z"⟩
abbrev cX6_readNight : ByteArray := prog_8_method_10_code
def yX6_readNight : MethodName := ⟨RX6, "readNight", "(LDoorCases$House;)Z"⟩
abbrev cX6_readEnd : ByteArray := prog_8_method_11_code
def yX6_readEnd : MethodName := ⟨RX6, "readEnd", "()Z"⟩
abbrev cX6_readNumber : ByteArray := prog_8_method_12_code
def yX6_readNumber : MethodName := ⟨RX6, "readNumber", "(II)I"⟩
abbrev cX6_skipBlanks : ByteArray := prog_8_method_13_code
def yX6_skipBlanks : MethodName := ⟨RX6, "skipBlanks", "()V"⟩
abbrev cX6_failsAt : ByteArray := prog_8_method_14_code
def yX6_failsAt : MethodName := ⟨RX6, "failsAt", "(I)Z"⟩
abbrev cX6_isDigit : ByteArray := prog_8_method_15_code
def yX6_isDigit : MethodName := ⟨RX6, "isDigit", "(I)Z"⟩
def RX7 : String := "DoorCases$Scene"
def TX7 : u_T := fun k => match k with
  | 0 => ("DoorCases$Scene", "here", "I", false)
  | 1 => ("DoorCases$Scene", "lastPlace", "I", false)
  | 2 => ("DoorCases$Scene", "minutes", "I", false)
  | 3 => ("DoorCases$Scene", "solved", "I", false)
  | 4 => ("DoorCases$Scene", "asked", "I", false)
  | 5 => ("DoorCases$Scene", "feeling", "[I", true)
  | _ => ("DoorCases$Scene", "lastDone", "[I", true)
def tyX7 : Nat → FieldType := fun k => match k with
  | 0 => .int
  | 1 => .int
  | 2 => .int
  | 3 => .int
  | 4 => .int
  | 5 => .array .int
  | _ => .array .int
abbrev wsX70 : List Cond := u_ws RX7 TX7 7
theorem nmX7 : ∀ a, a < 7 → ∀ b, b < 7 → a ≠ b → (TX7 a).2.1 ≠ (TX7 b).2.1 := by decide +kernel
theorem tyX7_ok : ∀ k, k < 7 → parseFieldDescriptor (TX7 k).2.2.1 = some (tyX7 k) := by decide +kernel
abbrev cX7_init : ByteArray := prog_9_method_1_code
def yX7_init : MethodName := ⟨RX7, "<init>", "()V"⟩
abbrev cX7_beginIn : ByteArray := prog_9_method_2_code
def yX7_beginIn : MethodName := ⟨RX7, "beginIn", "(LDoorCases$House;)V"⟩
abbrev cX7_copyOf : ByteArray := prog_9_method_3_code
def yX7_copyOf : MethodName := ⟨RX7, "copyOf", "(LDoorCases$Scene;)V"⟩
abbrev cX7_isSolved : ByteArray := prog_9_method_4_code
def yX7_isSolved : MethodName := ⟨RX7, "isSolved", "(I)Z"⟩
abbrev cX7_earnedIn : ByteArray := prog_9_method_5_code
def yX7_earnedIn : MethodName := ⟨RX7, "earnedIn", "(LDoorCases$House;)I"⟩
abbrev cX7_takeDoing : ByteArray := prog_9_method_6_code
def yX7_takeDoing : MethodName := ⟨RX7, "takeDoing", "(LDoorCases$House;II)V"⟩
def RX8 : String := "DoorCases"
def TX8 : u_T := fun k => match k with
  | 0 => ("DoorCases", "reader", "LDoorCases$Reader;", true)
  | 1 => ("DoorCases", "told", "LDoorCases$House;", false)
  | 2 => ("DoorCases", "draft", "LDoorCases$House;", false)
  | 3 => ("DoorCases", "scene", "LDoorCases$Scene;", true)
  | 4 => ("DoorCases", "past", "LDoorCases$Past;", true)
  | 5 => ("DoorCases", "images", "[LDoorCases$Scene;", true)
  | 6 => ("DoorCases", "imagesKept", "I", false)
  | 7 => ("DoorCases", "exits", "LDoorCases$Exits;", true)
  | 8 => ("DoorCases", "evening", "LDoorCases$Evening;", true)
  | 9 => ("DoorCases", "inquiry", "LDoorCases$Inquiry;", true)
  | 10 => ("DoorCases", "memory", "LDoorCases$Memory;", true)
  | 11 => ("DoorCases", "chances", "[I", true)
  | _ => ("DoorCases", "traceSum", "J", false)
def tyX8 : Nat → FieldType := fun k => match k with
  | 0 => .object "DoorCases$Reader"
  | 1 => .object "DoorCases$House"
  | 2 => .object "DoorCases$House"
  | 3 => .object "DoorCases$Scene"
  | 4 => .object "DoorCases$Past"
  | 5 => .array (.object "DoorCases$Scene")
  | 6 => .int
  | 7 => .object "DoorCases$Exits"
  | 8 => .object "DoorCases$Evening"
  | 9 => .object "DoorCases$Inquiry"
  | 10 => .object "DoorCases$Memory"
  | 11 => .array .int
  | _ => .long
abbrev wsX80 : List Cond := u_ws RX8 TX8 13
theorem nmX8 : ∀ a, a < 13 → ∀ b, b < 13 → a ≠ b → (TX8 a).2.1 ≠ (TX8 b).2.1 := by decide +kernel
theorem tyX8_ok : ∀ k, k < 13 → parseFieldDescriptor (TX8 k).2.2.1 = some (tyX8 k) := by decide +kernel
abbrev cX8_init : ByteArray := prog_1_method_1_code
def yX8_init : MethodName := ⟨RX8, "<init>", "()V"⟩
abbrev cX8_type : ByteArray := prog_1_method_2_code
def yX8_type : MethodName := ⟨RX8, "type", "(I)I"⟩
abbrev cX8_clear : ByteArray := prog_1_method_3_code
def yX8_clear : MethodName := ⟨RX8, "clear", "()I"⟩
abbrev cX8_house : ByteArray := prog_1_method_4_code
def yX8_house : MethodName := ⟨RX8, "house", "()I"⟩
abbrev cX8_room : ByteArray := prog_1_method_5_code
def yX8_room : MethodName := ⟨RX8, "room", "(II)I"⟩
abbrev cX8_doing : ByteArray := prog_1_method_6_code
def yX8_doing : MethodName := ⟨RX8, "doing", "(II)I"⟩
abbrev cX8_suspect : ByteArray := prog_1_method_7_code
def yX8_suspect : MethodName := ⟨RX8, "suspect", "(I)I"⟩
abbrev cX8_now : ByteArray := prog_1_method_8_code
def yX8_now : MethodName := ⟨RX8, "now", "(I)I"⟩
abbrev cX8_goes : ByteArray := prog_1_method_9_code
def yX8_goes : MethodName := ⟨RX8, "goes", "(I)I"⟩
abbrev cX8_does : ByteArray := prog_1_method_10_code
def yX8_does : MethodName := ⟨RX8, "does", "(I)I"⟩
abbrev cX8_asks : ByteArray := prog_1_method_11_code
def yX8_asks : MethodName := ⟨RX8, "asks", "(I)I"⟩
abbrev cX8_undo : ByteArray := prog_1_method_12_code
def yX8_undo : MethodName := ⟨RX8, "undo", "()I"⟩
abbrev cX8_soonest : ByteArray := prog_1_method_13_code
def yX8_soonest : MethodName := ⟨RX8, "soonest", "(II)I"⟩
abbrev cX8_loved : ByteArray := prog_1_method_14_code
def yX8_loved : MethodName := ⟨RX8, "loved", "()I"⟩
abbrev cX8_round : ByteArray := prog_1_method_15_code
def yX8_round : MethodName := ⟨RX8, "round", "(I)I"⟩
abbrev cX8_country : ByteArray := prog_1_method_16_code
def yX8_country : MethodName := ⟨RX8, "country", "()I"⟩
abbrev cX8_next : ByteArray := prog_1_method_17_code
def yX8_next : MethodName := ⟨RX8, "next", "()I"⟩
abbrev cX8_questions : ByteArray := prog_1_method_18_code
def yX8_questions : MethodName := ⟨RX8, "questions", "()I"⟩
abbrev cX8_felt : ByteArray := prog_1_method_19_code
def yX8_felt : MethodName := ⟨RX8, "felt", "(II)I"⟩
abbrev cX8_forget : ByteArray := prog_1_method_20_code
def yX8_forget : MethodName := ⟨RX8, "forget", "()I"⟩
abbrev cX8_tempers : ByteArray := prog_1_method_21_code
def yX8_tempers : MethodName := ⟨RX8, "tempers", "()I"⟩
abbrev cX8_which : ByteArray := prog_1_method_22_code
def yX8_which : MethodName := ⟨RX8, "which", "(II)I"⟩
abbrev cX8_odds : ByteArray := prog_1_method_23_code
def yX8_odds : MethodName := ⟨RX8, "odds", "(IIIII)I"⟩
abbrev cX8_rate : ByteArray := prog_1_method_24_code
def yX8_rate : MethodName := ⟨RX8, "rate", "(II)I"⟩
abbrev cX8_keep : ByteArray := prog_1_method_25_code
def yX8_keep : MethodName := ⟨RX8, "keep", "(I)I"⟩
abbrev cX8_back : ByteArray := prog_1_method_26_code
def yX8_back : MethodName := ⟨RX8, "back", "(I)I"⟩
abbrev cX8_count : ByteArray := prog_1_method_27_code
def yX8_count : MethodName := ⟨RX8, "count", "(I)I"⟩
abbrev cX8_trace : ByteArray := prog_1_method_28_code
def yX8_trace : MethodName := ⟨RX8, "trace", "()J"⟩
abbrev cX8_rateAs : ByteArray := prog_1_method_29_code
def yX8_rateAs : MethodName := ⟨RX8, "rateAs", "(II)I"⟩
abbrev cX8_lossOf : ByteArray := prog_1_method_30_code
def yX8_lossOf : MethodName := ⟨RX8, "lossOf", "(IZ)I"⟩
abbrev cX8_countChances : ByteArray := prog_1_method_31_code
def yX8_countChances : MethodName := ⟨RX8, "countChances", "(II)I"⟩
abbrev cX8_commonDivisor : ByteArray := prog_1_method_32_code
def yX8_commonDivisor : MethodName := ⟨RX8, "commonDivisor", "(II)I"⟩
def RX9 : String := "DoorCasesModel"
def TX9 : u_T := fun k => match k with
  | 0 => ("DoorCasesModel", "thrown", "I", false)
  | 1 => ("DoorCasesModel", "trace", "J", false)
  | 2 => ("DoorCasesModel", "text", "[I", true)
  | 3 => ("DoorCasesModel", "typed", "I", false)
  | 4 => ("DoorCasesModel", "next", "I", false)
  | 5 => ("DoorCasesModel", "token", "I", false)
  | 6 => ("DoorCasesModel", "place", "I", false)
  | 7 => ("DoorCasesModel", "value", "I", false)
  | 8 => ("DoorCasesModel", "fault", "I", false)
  | 9 => ("DoorCasesModel", "many", "[I", true)
  | 10 => ("DoorCasesModel", "told", "I", false)
  | 11 => ("DoorCasesModel", "feeling", "[I", true)
  | 12 => ("DoorCasesModel", "temper", "[I", true)
  | 13 => ("DoorCasesModel", "worth", "[I", true)
  | 14 => ("DoorCasesModel", "rude", "[I", true)
  | 15 => ("DoorCasesModel", "lasting", "[I", true)
  | 16 => ("DoorCasesModel", "traits", "[I", true)
  | 17 => ("DoorCasesModel", "s", "[I", true)
  | 18 => ("DoorCasesModel", "kept", "[I", true)
  | 19 => ("DoorCasesModel", "isKept", "[Z", true)
  | 20 => ("DoorCasesModel", "undos", "[I", true)
  | 21 => ("DoorCasesModel", "undoMany", "I", false)
  | 22 => ("DoorCasesModel", "feltBy", "[I", true)
  | 23 => ("DoorCasesModel", "feltMany", "[I", true)
  | 24 => ("DoorCasesModel", "felts", "I", false)
  | 25 => ("DoorCasesModel", "soon", "[I", true)
  | 26 => ("DoorCasesModel", "soonOf", "[I", true)
  | 27 => ("DoorCasesModel", "row", "[I", true)
  | 28 => ("DoorCasesModel", "best", "[I", true)
  | _ => ("DoorCasesModel", "worst", "[I", true)
def tyX9 : Nat → FieldType := fun k => match k with
  | 0 => .int
  | 1 => .long
  | 2 => .array .int
  | 3 => .int
  | 4 => .int
  | 5 => .int
  | 6 => .int
  | 7 => .int
  | 8 => .int
  | 9 => .array .int
  | 10 => .int
  | 11 => .array .int
  | 12 => .array .int
  | 13 => .array .int
  | 14 => .array .int
  | 15 => .array .int
  | 16 => .array .int
  | 17 => .array .int
  | 18 => .array .int
  | 19 => .array .boolean
  | 20 => .array .int
  | 21 => .int
  | 22 => .array .int
  | 23 => .array .int
  | 24 => .int
  | 25 => .array .int
  | 26 => .array .int
  | 27 => .array .int
  | 28 => .array .int
  | _ => .array .int
abbrev wsX90 : List Cond := u_ws RX9 TX9 30
theorem nmX9 : ∀ a, a < 30 → ∀ b, b < 30 → a ≠ b → (TX9 a).2.1 ≠ (TX9 b).2.1 := by decide +kernel
theorem tyX9_ok : ∀ k, k < 30 → parseFieldDescriptor (TX9 k).2.2.1 = some (tyX9 k) := by decide +kernel
abbrev cX9_init : ByteArray := prog_11_method_1_code
def yX9_init : MethodName := ⟨RX9, "<init>", "()V"⟩
abbrev cX9_in : ByteArray := prog_11_method_3_code
def yX9_in : MethodName := ⟨RX9, "in", "(III)Z"⟩
abbrev cX9_ones : ByteArray := prog_11_method_4_code
def yX9_ones : MethodName := ⟨RX9, "ones", "(I)I"⟩
abbrev cX9_type : ByteArray := prog_11_method_5_code
def yX9_type : MethodName := ⟨RX9, "type", "(I)I"⟩
abbrev cX9_clear : ByteArray := prog_11_method_6_code
def yX9_clear : MethodName := ⟨RX9, "clear", "()I"⟩
abbrev cX9_letterAt : ByteArray := prog_11_method_7_code
def yX9_letterAt : MethodName := ⟨RX9, "letterAt", "(I)I"⟩
abbrev cX9_isLetter : ByteArray := prog_11_method_8_code
def yX9_isLetter : MethodName := ⟨RX9, "isLetter", "(I)Z"⟩
abbrev cX9_advances : ByteArray := prog_11_method_9_code
def yX9_advances : MethodName := ⟨RX9, "advances", "()V"⟩
abbrev cX9_isWell : ByteArray := prog_11_method_10_code
def yX9_isWell : MethodName := ⟨RX9, "isWell", "()Z"⟩
abbrev cX9_takes : ByteArray := prog_11_method_11_code
def yX9_takes : MethodName := ⟨RX9, "takes", "(Z)I"⟩
abbrev cX9_number : ByteArray := prog_11_method_12_code
def yX9_number : MethodName := ⟨RX9, "number", "(II)I"⟩
abbrev cX9_begins : ByteArray := prog_11_method_13_code
def yX9_begins : MethodName := ⟨RX9, "begins", "()V"⟩
abbrev cX9_bitOf : ByteArray := prog_11_method_14_code
def yX9_bitOf : MethodName := ⟨RX9, "bitOf", "(I)I"⟩
abbrev cX9_mayBegin : ByteArray := prog_11_method_15_code
def yX9_mayBegin : MethodName := ⟨RX9, "mayBegin", "()Z"⟩
abbrev cX9_readsItem : ByteArray := prog_11_method_16_code
def yX9_readsItem : MethodName := ⟨RX9, "readsItem", "(I)V"⟩
abbrev cX9_house : ByteArray := prog_11_method_17_code
def yX9_house : MethodName := ⟨RX9, "house", "()I"⟩
abbrev cX9_settles : ByteArray := prog_11_method_18_code
def yX9_settles : MethodName := ⟨RX9, "settles", "()V"⟩
abbrev cX9_isRoom : ByteArray := prog_11_method_19_code
def yX9_isRoom : MethodName := ⟨RX9, "isRoom", "(I)Z"⟩
abbrev cX9_isDoing : ByteArray := prog_11_method_20_code
def yX9_isDoing : MethodName := ⟨RX9, "isDoing", "(I)Z"⟩
abbrev cX9_isSolved : ByteArray := prog_11_method_21_code
def yX9_isSolved : MethodName := ⟨RX9, "isSolved", "(I)Z"⟩
abbrev cX9_room : ByteArray := prog_11_method_22_code
def yX9_room : MethodName := ⟨RX9, "room", "(II)I"⟩
abbrev cX9_doing : ByteArray := prog_11_method_23_code
def yX9_doing : MethodName := ⟨RX9, "doing", "(II)I"⟩
abbrev cX9_suspect : ByteArray := prog_11_method_24_code
def yX9_suspect : MethodName := ⟨RX9, "suspect", "(I)I"⟩
abbrev cX9_earned : ByteArray := prog_11_method_25_code
def yX9_earned : MethodName := ⟨RX9, "earned", "()I"⟩
abbrev cX9_left : ByteArray := prog_11_method_26_code
def yX9_left : MethodName := ⟨RX9, "left", "()I"⟩
abbrev cX9_now : ByteArray := prog_11_method_27_code
def yX9_now : MethodName := ⟨RX9, "now", "(I)I"⟩
abbrev cX9_notes : ByteArray := prog_11_method_28_code
def yX9_notes : MethodName := ⟨RX9, "notes", "()V"⟩
abbrev cX9_mayLast : ByteArray := prog_11_method_29_code
def yX9_mayLast : MethodName := ⟨RX9, "mayLast", "(I)Z"⟩
abbrev cX9_walk : ByteArray := prog_11_method_30_code
def yX9_walk : MethodName := ⟨RX9, "walk", "(II)I"⟩
abbrev cX9_goes : ByteArray := prog_11_method_31_code
def yX9_goes : MethodName := ⟨RX9, "goes", "(I)I"⟩
abbrev cX9_hurt : ByteArray := prog_11_method_32_code
def yX9_hurt : MethodName := ⟨RX9, "hurt", "(III)I"⟩
abbrev cX9_does : ByteArray := prog_11_method_33_code
def yX9_does : MethodName := ⟨RX9, "does", "(I)I"⟩
abbrev cX9_asks : ByteArray := prog_11_method_34_code
def yX9_asks : MethodName := ⟨RX9, "asks", "(I)I"⟩
abbrev cX9_undo : ByteArray := prog_11_method_35_code
def yX9_undo : MethodName := ⟨RX9, "undo", "()I"⟩
abbrev cX9_soonBy : ByteArray := prog_11_method_36_code
def yX9_soonBy : MethodName := ⟨RX9, "soonBy", "(IIII)I"⟩
abbrev cX9_measures : ByteArray := prog_11_method_37_code
def yX9_measures : MethodName := ⟨RX9, "measures", "(I)V"⟩
abbrev cX9_soonAt : ByteArray := prog_11_method_38_code
def yX9_soonAt : MethodName := ⟨RX9, "soonAt", "(I)I"⟩
abbrev cX9_soonest : ByteArray := prog_11_method_39_code
def yX9_soonest : MethodName := ⟨RX9, "soonest", "(II)I"⟩
abbrev cX9_loved : ByteArray := prog_11_method_40_code
def yX9_loved : MethodName := ⟨RX9, "loved", "()I"⟩
abbrev cX9_gathers : ByteArray := prog_11_method_41_code
def yX9_gathers : MethodName := ⟨RX9, "gathers", "()V"⟩
abbrev cX9_rowOf : ByteArray := prog_11_method_42_code
def yX9_rowOf : MethodName := ⟨RX9, "rowOf", "(I)I"⟩
abbrev cX9_round : ByteArray := prog_11_method_43_code
def yX9_round : MethodName := ⟨RX9, "round", "(I)I"⟩
abbrev cX9_country : ByteArray := prog_11_method_44_code
def yX9_country : MethodName := ⟨RX9, "country", "()I"⟩
abbrev cX9_having : ByteArray := prog_11_method_45_code
def yX9_having : MethodName := ⟨RX9, "having", "(II)I"⟩
abbrev cX9_next : ByteArray := prog_11_method_46_code
def yX9_next : MethodName := ⟨RX9, "next", "()I"⟩
abbrev cX9_questions : ByteArray := prog_11_method_47_code
def yX9_questions : MethodName := ⟨RX9, "questions", "()I"⟩
abbrev cX9_felt : ByteArray := prog_11_method_48_code
def yX9_felt : MethodName := ⟨RX9, "felt", "(II)I"⟩
abbrev cX9_forget : ByteArray := prog_11_method_49_code
def yX9_forget : MethodName := ⟨RX9, "forget", "()I"⟩
abbrev cX9_tempers : ByteArray := prog_11_method_50_code
def yX9_tempers : MethodName := ⟨RX9, "tempers", "()I"⟩
abbrev cX9_which : ByteArray := prog_11_method_51_code
def yX9_which : MethodName := ⟨RX9, "which", "(II)I"⟩
abbrev cX9_power : ByteArray := prog_11_method_52_code
def yX9_power : MethodName := ⟨RX9, "power", "(II)I"⟩
abbrev cX9_gcd : ByteArray := prog_11_method_53_code
def yX9_gcd : MethodName := ⟨RX9, "gcd", "(II)I"⟩
abbrev cX9_odds : ByteArray := prog_11_method_54_code
def yX9_odds : MethodName := ⟨RX9, "odds", "(IIIII)I"⟩
abbrev cX9_rate : ByteArray := prog_11_method_55_code
def yX9_rate : MethodName := ⟨RX9, "rate", "(II)I"⟩
abbrev cX9_keep : ByteArray := prog_11_method_56_code
def yX9_keep : MethodName := ⟨RX9, "keep", "(I)I"⟩
abbrev cX9_back : ByteArray := prog_11_method_57_code
def yX9_back : MethodName := ⟨RX9, "back", "(I)I"⟩
abbrev cX9_count : ByteArray := prog_11_method_58_code
def yX9_count : MethodName := ⟨RX9, "count", "(I)I"⟩
abbrev cX9_trace : ByteArray := prog_11_method_59_code
def yX9_trace : MethodName := ⟨RX9, "trace", "()J"⟩
def RJ6 : String := "java/lang/Integer"
def TJ6 : u_T := fun k => match k with
  | _ => ("", "", "", false)
def tyJ6 : Nat → FieldType := fun k => match k with
  | _ => .int
abbrev wsJ60 : List Cond := u_ws RJ6 TJ6 0
theorem nmJ6 : ∀ a, a < 0 → ∀ b, b < 0 → a ≠ b → (TJ6 a).2.1 ≠ (TJ6 b).2.1 := by decide +kernel
theorem tyJ6_ok : ∀ k, k < 0 → parseFieldDescriptor (TJ6 k).2.2.1 = some (tyJ6 k) := by decide +kernel
abbrev cJ6_bitCount_0f7a4 : ByteArray := prog_12_method_49_code
def yJ6_bitCount_0f7a4 : MethodName := ⟨RJ6, "bitCount", "(I)I"⟩
def RJ9 : String := "java/lang/Math"
def TJ9 : u_T := fun k => match k with
  | _ => ("", "", "", false)
def tyJ9 : Nat → FieldType := fun k => match k with
  | _ => .int
abbrev wsJ90 : List Cond := u_ws RJ9 TJ9 0
theorem nmJ9 : ∀ a, a < 0 → ∀ b, b < 0 → a ≠ b → (TJ9 a).2.1 ≠ (TJ9 b).2.1 := by decide +kernel
theorem tyJ9_ok : ∀ k, k < 0 → parseFieldDescriptor (TJ9 k).2.2.1 = some (tyJ9 k) := by decide +kernel
abbrev cJ9_abs_0f7a4 : ByteArray := prog_13_method_59_code
def yJ9_abs_0f7a4 : MethodName := ⟨RJ9, "abs", "(I)I"⟩
abbrev cJ9_max_7cf53 : ByteArray := prog_13_method_65_code
def yJ9_max_7cf53 : MethodName := ⟨RJ9, "max", "(II)I"⟩
abbrev cJ9_min_7cf53 : ByteArray := prog_13_method_69_code
def yJ9_min_7cf53 : MethodName := ⟨RJ9, "min", "(II)I"⟩
def RJ10 : String := "java/lang/System"
def TJ10 : u_T := fun k => match k with
  | _ => ("", "", "", false)
def tyJ10 : Nat → FieldType := fun k => match k with
  | _ => .int
abbrev wsJ100 : List Cond := u_ws RJ10 TJ10 0
theorem nmJ10 : ∀ a, a < 0 → ∀ b, b < 0 → a ≠ b → (TJ10 a).2.1 ≠ (TJ10 b).2.1 := by decide +kernel
theorem tyJ10_ok : ∀ k, k < 0 → parseFieldDescriptor (TJ10 k).2.2.1 = some (tyJ10 k) := by decide +kernel
def RJ7 : String := "java/util/Arrays"
def TJ7 : u_T := fun k => match k with
  | _ => ("", "", "", false)
def tyJ7 : Nat → FieldType := fun k => match k with
  | _ => .int
abbrev wsJ70 : List Cond := u_ws RJ7 TJ7 0
theorem nmJ7 : ∀ a, a < 0 → ∀ b, b < 0 → a ≠ b → (TJ7 a).2.1 ≠ (TJ7 b).2.1 := by decide +kernel
theorem tyJ7_ok : ∀ k, k < 0 → parseFieldDescriptor (TJ7 k).2.2.1 = some (tyJ7 k) := by decide +kernel
abbrev cJ7_fill_53178 : ByteArray := prog_15_method_103_code
def yJ7_fill_53178 : MethodName := ⟨RJ7, "fill", "([II)V"⟩
def RL : String := "DoorCasesLaw"
abbrev cL_law : ByteArray := code
def yL_law : MethodName := ⟨RL, "law", "([I)Z"⟩
abbrev vwCl : List vw_C := [(RX0, TX0, 7), (RX1, TX1, 7), (RX2, TX2, 12), (RX3, TX3, 2), (RX4, TX4, 3), (RX5, TX5, 3), (RX6, TX6, 7), (RX7, TX7, 7), (RX8, TX8, 13), (RX9, TX9, 30)]
end
section
theorem dX0_init_0 : decode cX0_init 0 = .ok (.aload_n 0, 1) := by decide +kernel
theorem dX0_init_1 : decode cX0_init 1 = .ok (.invokespecial 3, 3) := by decide +kernel
theorem dX0_init_4 : decode cX0_init 4 = .ok (.aload_n 0, 1) := by decide +kernel
theorem dX0_init_5 : decode cX0_init 5 = .ok (.iconst 5, 1) := by decide +kernel
theorem dX0_init_6 : decode cX0_init 6 = .ok (.newarray .int, 2) := by decide +kernel
theorem dX0_init_8 : decode cX0_init 8 = .ok (.putfield 9, 3) := by decide +kernel
theorem dX0_init_11 : decode cX0_init 11 = .ok (.aload_n 0, 1) := by decide +kernel
theorem dX0_init_12 : decode cX0_init 12 = .ok (.iconst 5, 1) := by decide +kernel
theorem dX0_init_13 : decode cX0_init 13 = .ok (.newarray .int, 2) := by decide +kernel
theorem dX0_init_15 : decode cX0_init 15 = .ok (.putfield 15, 3) := by decide +kernel
theorem dX0_init_18 : decode cX0_init 18 = .ok (.aload_n 0, 1) := by decide +kernel
theorem dX0_init_19 : decode cX0_init 19 = .ok (.iconst 5, 1) := by decide +kernel
theorem dX0_init_20 : decode cX0_init 20 = .ok (.newarray .int, 2) := by decide +kernel
theorem dX0_init_22 : decode cX0_init 22 = .ok (.putfield 18, 3) := by decide +kernel
theorem dX0_init_25 : decode cX0_init 25 = .ok (.return_, 1) := by decide +kernel
theorem dX0_plan_0 : decode cX0_plan 0 = .ok (.aload_n 3, 1) := by decide +kernel
theorem dX0_plan_1 : decode cX0_plan 1 = .ok (.iconst 0, 1) := by decide +kernel
theorem dX0_plan_2 : decode cX0_plan 2 = .ok (.aload_n 0, 1) := by decide +kernel
theorem dX0_plan_3 : decode cX0_plan 3 = .ok (.getfield 18, 3) := by decide +kernel
theorem dX0_plan_6 : decode cX0_plan 6 = .ok (.iconst 0, 1) := by decide +kernel
theorem dX0_plan_7 : decode cX0_plan 7 = .ok (.iconst 5, 1) := by decide +kernel
theorem dX0_plan_8 : decode cX0_plan 8 = .ok (.invokestatic 21, 3) := by decide +kernel
theorem dX0_plan_11 : decode cX0_plan 11 = .ok (.aload_n 0, 1) := by decide +kernel
theorem dX0_plan_12 : decode cX0_plan 12 = .ok (.aload_n 1, 1) := by decide +kernel
theorem dX0_plan_13 : decode cX0_plan 13 = .ok (.getfield 27, 3) := by decide +kernel
theorem dX0_plan_16 : decode cX0_plan 16 = .ok (.aload_n 2, 1) := by decide +kernel
theorem dX0_plan_17 : decode cX0_plan 17 = .ok (.getfield 33, 3) := by decide +kernel
theorem dX0_plan_20 : decode cX0_plan 20 = .ok (.isub, 1) := by decide +kernel
theorem dX0_plan_21 : decode cX0_plan 21 = .ok (.putfield 38, 3) := by decide +kernel
theorem dX0_plan_24 : decode cX0_plan 24 = .ok (.aload_n 0, 1) := by decide +kernel
theorem dX0_plan_25 : decode cX0_plan 25 = .ok (.iconst 0, 1) := by decide +kernel
theorem dX0_plan_26 : decode cX0_plan 26 = .ok (.putfield 41, 3) := by decide +kernel
theorem dX0_plan_29 : decode cX0_plan 29 = .ok (.aload_n 0, 1) := by decide +kernel
theorem dX0_plan_30 : decode cX0_plan 30 = .ok (.iconst 0, 1) := by decide +kernel
theorem dX0_plan_31 : decode cX0_plan 31 = .ok (.putfield 44, 3) := by decide +kernel
theorem dX0_plan_34 : decode cX0_plan 34 = .ok (.aload_n 0, 1) := by decide +kernel
theorem dX0_plan_35 : decode cX0_plan 35 = .ok (.iconst 0, 1) := by decide +kernel
theorem dX0_plan_36 : decode cX0_plan 36 = .ok (.putfield 47, 3) := by decide +kernel
theorem dX0_plan_39 : decode cX0_plan 39 = .ok (.aload_n 0, 1) := by decide +kernel
theorem dX0_plan_40 : decode cX0_plan 40 = .ok (.aload_n 1, 1) := by decide +kernel
theorem dX0_plan_41 : decode cX0_plan 41 = .ok (.iconst 0, 1) := by decide +kernel
theorem dX0_plan_42 : decode cX0_plan 42 = .ok (.aload_n 2, 1) := by decide +kernel
theorem dX0_plan_43 : decode cX0_plan 43 = .ok (.getfield 50, 3) := by decide +kernel
theorem dX0_plan_46 : decode cX0_plan 46 = .ok (.iconst 0, 1) := by decide +kernel
theorem dX0_plan_47 : decode cX0_plan 47 = .ok (.iconst 0, 1) := by decide +kernel
theorem dX0_plan_48 : decode cX0_plan 48 = .ok (.iconst 0, 1) := by decide +kernel
theorem dX0_plan_49 : decode cX0_plan 49 = .ok (.invokevirtual 53, 3) := by decide +kernel
theorem dX0_plan_52 : decode cX0_plan 52 = .ok (.return_, 1) := by decide +kernel
theorem dX0_extend_0 : decode cX0_extend 0 = .ok (.iload_n 2, 1) := by decide +kernel
theorem dX0_extend_1 : decode cX0_extend 1 = .ok (.iconst 5, 1) := by decide +kernel
theorem dX0_extend_2 : decode cX0_extend 2 = .ok (.if_icmp .lt 4, 3) := by decide +kernel
theorem dX0_extend_5 : decode cX0_extend 5 = .ok (.return_, 1) := by decide +kernel
theorem dX0_extend_6 : decode cX0_extend 6 = .ok (.iconst 0, 1) := by decide +kernel
theorem dX0_extend_7 : decode cX0_extend 7 = .ok (.istore 7, 2) := by decide +kernel
theorem dX0_extend_9 : decode cX0_extend 9 = .ok (.iload 7, 2) := by decide +kernel
theorem dX0_extend_11 : decode cX0_extend 11 = .ok (.aload_n 1, 1) := by decide +kernel
theorem dX0_extend_12 : decode cX0_extend 12 = .ok (.getfield 57, 3) := by decide +kernel
theorem dX0_extend_15 : decode cX0_extend 15 = .ok (.if_icmp .ge 112, 3) := by decide +kernel
theorem dX0_extend_18 : decode cX0_extend 18 = .ok (.aload_n 0, 1) := by decide +kernel
theorem dX0_extend_19 : decode cX0_extend 19 = .ok (.getfield 18, 3) := by decide +kernel
theorem dX0_extend_22 : decode cX0_extend 22 = .ok (.iload 7, 2) := by decide +kernel
theorem dX0_extend_24 : decode cX0_extend 24 = .ok (.iaload, 1) := by decide +kernel
theorem dX0_extend_25 : decode cX0_extend 25 = .ok (.bipush (-9), 2) := by decide +kernel
theorem dX0_extend_27 : decode cX0_extend 27 = .ok (.if_icmp .eq 94, 3) := by decide +kernel
theorem dX0_extend_30 : decode cX0_extend 30 = .ok (.iload 6, 2) := by decide +kernel
theorem dX0_extend_32 : decode cX0_extend 32 = .ok (.iload 7, 2) := by decide +kernel
theorem dX0_extend_34 : decode cX0_extend 34 = .ok (.ishr, 1) := by decide +kernel
theorem dX0_extend_35 : decode cX0_extend 35 = .ok (.iconst 1, 1) := by decide +kernel
theorem dX0_extend_36 : decode cX0_extend 36 = .ok (.iand, 1) := by decide +kernel
theorem dX0_extend_37 : decode cX0_extend 37 = .ok (.ifCond .ne 84, 3) := by decide +kernel
theorem dX0_extend_40 : decode cX0_extend 40 = .ok (.iload 4, 2) := by decide +kernel
theorem dX0_extend_42 : decode cX0_extend 42 = .ok (.aload_n 1, 1) := by decide +kernel
theorem dX0_extend_43 : decode cX0_extend 43 = .ok (.iload_n 3, 1) := by decide +kernel
theorem dX0_extend_44 : decode cX0_extend 44 = .ok (.iload 7, 2) := by decide +kernel
theorem dX0_extend_46 : decode cX0_extend 46 = .ok (.invokevirtual 60, 3) := by decide +kernel
theorem dX0_extend_49 : decode cX0_extend 49 = .ok (.iadd, 1) := by decide +kernel
theorem dX0_extend_50 : decode cX0_extend 50 = .ok (.aload_n 0, 1) := by decide +kernel
theorem dX0_extend_51 : decode cX0_extend 51 = .ok (.getfield 18, 3) := by decide +kernel
theorem dX0_extend_54 : decode cX0_extend 54 = .ok (.iload 7, 2) := by decide +kernel
theorem dX0_extend_56 : decode cX0_extend 56 = .ok (.iaload, 1) := by decide +kernel
theorem dX0_extend_57 : decode cX0_extend 57 = .ok (.iadd, 1) := by decide +kernel
theorem dX0_extend_58 : decode cX0_extend 58 = .ok (.istore 8, 2) := by decide +kernel
theorem dX0_extend_60 : decode cX0_extend 60 = .ok (.iload 5, 2) := by decide +kernel
theorem dX0_extend_62 : decode cX0_extend 62 = .ok (.aload_n 1, 1) := by decide +kernel
theorem dX0_extend_63 : decode cX0_extend 63 = .ok (.getfield 64, 3) := by decide +kernel
theorem dX0_extend_66 : decode cX0_extend 66 = .ok (.iload 7, 2) := by decide +kernel
theorem dX0_extend_68 : decode cX0_extend 68 = .ok (.iaload, 1) := by decide +kernel
theorem dX0_extend_69 : decode cX0_extend 69 = .ok (.iadd, 1) := by decide +kernel
theorem dX0_extend_70 : decode cX0_extend 70 = .ok (.istore 9, 2) := by decide +kernel
theorem dX0_extend_72 : decode cX0_extend 72 = .ok (.iload 8, 2) := by decide +kernel
theorem dX0_extend_74 : decode cX0_extend 74 = .ok (.aload_n 0, 1) := by decide +kernel
theorem dX0_extend_75 : decode cX0_extend 75 = .ok (.getfield 38, 3) := by decide +kernel
theorem dX0_extend_78 : decode cX0_extend 78 = .ok (.if_icmp .gt 43, 3) := by decide +kernel
theorem dX0_extend_81 : decode cX0_extend 81 = .ok (.aload_n 0, 1) := by decide +kernel
theorem dX0_extend_82 : decode cX0_extend 82 = .ok (.getfield 15, 3) := by decide +kernel
theorem dX0_extend_85 : decode cX0_extend 85 = .ok (.iload_n 2, 1) := by decide +kernel
theorem dX0_extend_86 : decode cX0_extend 86 = .ok (.iload 7, 2) := by decide +kernel
theorem dX0_extend_88 : decode cX0_extend 88 = .ok (.iastore, 1) := by decide +kernel
theorem dX0_extend_89 : decode cX0_extend 89 = .ok (.aload_n 0, 1) := by decide +kernel
theorem dX0_extend_90 : decode cX0_extend 90 = .ok (.iload_n 2, 1) := by decide +kernel
theorem dX0_extend_91 : decode cX0_extend 91 = .ok (.iconst 1, 1) := by decide +kernel
theorem dX0_extend_92 : decode cX0_extend 92 = .ok (.iadd, 1) := by decide +kernel
theorem dX0_extend_93 : decode cX0_extend 93 = .ok (.iload 9, 2) := by decide +kernel
theorem dX0_extend_95 : decode cX0_extend 95 = .ok (.iload 8, 2) := by decide +kernel
theorem dX0_extend_97 : decode cX0_extend 97 = .ok (.invokevirtual 67, 3) := by decide +kernel
theorem dX0_extend_100 : decode cX0_extend 100 = .ok (.aload_n 0, 1) := by decide +kernel
theorem dX0_extend_101 : decode cX0_extend 101 = .ok (.aload_n 1, 1) := by decide +kernel
theorem dX0_extend_102 : decode cX0_extend 102 = .ok (.iload_n 2, 1) := by decide +kernel
theorem dX0_extend_103 : decode cX0_extend 103 = .ok (.iconst 1, 1) := by decide +kernel
theorem dX0_extend_104 : decode cX0_extend 104 = .ok (.iadd, 1) := by decide +kernel
theorem dX0_extend_105 : decode cX0_extend 105 = .ok (.iload 7, 2) := by decide +kernel
theorem dX0_extend_107 : decode cX0_extend 107 = .ok (.iload 8, 2) := by decide +kernel
theorem dX0_extend_109 : decode cX0_extend 109 = .ok (.iload 9, 2) := by decide +kernel
theorem dX0_extend_111 : decode cX0_extend 111 = .ok (.iload 6, 2) := by decide +kernel
theorem dX0_extend_113 : decode cX0_extend 113 = .ok (.iconst 1, 1) := by decide +kernel
theorem dX0_extend_114 : decode cX0_extend 114 = .ok (.iload 7, 2) := by decide +kernel
theorem dX0_extend_116 : decode cX0_extend 116 = .ok (.ishl, 1) := by decide +kernel
theorem dX0_extend_117 : decode cX0_extend 117 = .ok (.ior, 1) := by decide +kernel
theorem dX0_extend_118 : decode cX0_extend 118 = .ok (.invokevirtual 53, 3) := by decide +kernel
theorem dX0_extend_121 : decode cX0_extend 121 = .ok (.iinc 7 1, 3) := by decide +kernel
theorem dX0_extend_124 : decode cX0_extend 124 = .ok (.goto (-115), 3) := by decide +kernel
theorem dX0_extend_127 : decode cX0_extend 127 = .ok (.return_, 1) := by decide +kernel
theorem dX0_weigh_0 : decode cX0_weigh 0 = .ok (.iload_n 2, 1) := by decide +kernel
theorem dX0_weigh_1 : decode cX0_weigh 1 = .ok (.aload_n 0, 1) := by decide +kernel
theorem dX0_weigh_2 : decode cX0_weigh 2 = .ok (.getfield 44, 3) := by decide +kernel
theorem dX0_weigh_5 : decode cX0_weigh 5 = .ok (.if_icmp .gt 19, 3) := by decide +kernel
theorem dX0_weigh_8 : decode cX0_weigh 8 = .ok (.iload_n 2, 1) := by decide +kernel
theorem dX0_weigh_9 : decode cX0_weigh 9 = .ok (.aload_n 0, 1) := by decide +kernel
theorem dX0_weigh_10 : decode cX0_weigh 10 = .ok (.getfield 44, 3) := by decide +kernel
theorem dX0_weigh_13 : decode cX0_weigh 13 = .ok (.if_icmp .ne 40, 3) := by decide +kernel
theorem dX0_weigh_16 : decode cX0_weigh 16 = .ok (.iload_n 3, 1) := by decide +kernel
theorem dX0_weigh_17 : decode cX0_weigh 17 = .ok (.aload_n 0, 1) := by decide +kernel
theorem dX0_weigh_18 : decode cX0_weigh 18 = .ok (.getfield 47, 3) := by decide +kernel
theorem dX0_weigh_21 : decode cX0_weigh 21 = .ok (.if_icmp .ge 32, 3) := by decide +kernel
theorem dX0_weigh_24 : decode cX0_weigh 24 = .ok (.aload_n 0, 1) := by decide +kernel
theorem dX0_weigh_25 : decode cX0_weigh 25 = .ok (.iload_n 1, 1) := by decide +kernel
theorem dX0_weigh_26 : decode cX0_weigh 26 = .ok (.putfield 41, 3) := by decide +kernel
theorem dX0_weigh_29 : decode cX0_weigh 29 = .ok (.aload_n 0, 1) := by decide +kernel
theorem dX0_weigh_30 : decode cX0_weigh 30 = .ok (.iload_n 2, 1) := by decide +kernel
theorem dX0_weigh_31 : decode cX0_weigh 31 = .ok (.putfield 44, 3) := by decide +kernel
theorem dX0_weigh_34 : decode cX0_weigh 34 = .ok (.aload_n 0, 1) := by decide +kernel
theorem dX0_weigh_35 : decode cX0_weigh 35 = .ok (.iload_n 3, 1) := by decide +kernel
theorem dX0_weigh_36 : decode cX0_weigh 36 = .ok (.putfield 47, 3) := by decide +kernel
theorem dX0_weigh_39 : decode cX0_weigh 39 = .ok (.aload_n 0, 1) := by decide +kernel
theorem dX0_weigh_40 : decode cX0_weigh 40 = .ok (.getfield 15, 3) := by decide +kernel
theorem dX0_weigh_43 : decode cX0_weigh 43 = .ok (.iconst 0, 1) := by decide +kernel
theorem dX0_weigh_44 : decode cX0_weigh 44 = .ok (.aload_n 0, 1) := by decide +kernel
theorem dX0_weigh_45 : decode cX0_weigh 45 = .ok (.getfield 9, 3) := by decide +kernel
theorem dX0_weigh_48 : decode cX0_weigh 48 = .ok (.iconst 0, 1) := by decide +kernel
theorem dX0_weigh_49 : decode cX0_weigh 49 = .ok (.iload_n 1, 1) := by decide +kernel
theorem dX0_weigh_50 : decode cX0_weigh 50 = .ok (.invokestatic 21, 3) := by decide +kernel
theorem dX0_weigh_53 : decode cX0_weigh 53 = .ok (.return_, 1) := by decide +kernel
theorem dX1_init_0 : decode cX1_init 0 = .ok (.aload_n 0, 1) := by decide +kernel
theorem dX1_init_1 : decode cX1_init 1 = .ok (.invokespecial 3, 3) := by decide +kernel
theorem dX1_init_4 : decode cX1_init 4 = .ok (.aload_n 0, 1) := by decide +kernel
theorem dX1_init_5 : decode cX1_init 5 = .ok (.sipush 186, 3) := by decide +kernel
theorem dX1_init_8 : decode cX1_init 8 = .ok (.newarray .int, 2) := by decide +kernel
theorem dX1_init_10 : decode cX1_init 10 = .ok (.putfield 11, 3) := by decide +kernel
theorem dX1_init_13 : decode cX1_init 13 = .ok (.aload_n 0, 1) := by decide +kernel
theorem dX1_init_14 : decode cX1_init 14 = .ok (.iconst 5, 1) := by decide +kernel
theorem dX1_init_15 : decode cX1_init 15 = .ok (.newarray .int, 2) := by decide +kernel
theorem dX1_init_17 : decode cX1_init 17 = .ok (.putfield 15, 3) := by decide +kernel
theorem dX1_init_20 : decode cX1_init 20 = .ok (.aload_n 0, 1) := by decide +kernel
theorem dX1_init_21 : decode cX1_init 21 = .ok (.iconst 5, 1) := by decide +kernel
theorem dX1_init_22 : decode cX1_init 22 = .ok (.newarray .int, 2) := by decide +kernel
theorem dX1_init_24 : decode cX1_init 24 = .ok (.putfield 18, 3) := by decide +kernel
theorem dX1_init_27 : decode cX1_init 27 = .ok (.aload_n 0, 1) := by decide +kernel
theorem dX1_init_28 : decode cX1_init 28 = .ok (.iconst 5, 1) := by decide +kernel
theorem dX1_init_29 : decode cX1_init 29 = .ok (.newarray .int, 2) := by decide +kernel
theorem dX1_init_31 : decode cX1_init 31 = .ok (.putfield 21, 3) := by decide +kernel
theorem dX1_init_34 : decode cX1_init 34 = .ok (.return_, 1) := by decide +kernel
theorem dX1_solve_0 : decode cX1_solve 0 = .ok (.aload_n 0, 1) := by decide +kernel
theorem dX1_solve_1 : decode cX1_solve 1 = .ok (.aload_n 1, 1) := by decide +kernel
theorem dX1_solve_2 : decode cX1_solve 2 = .ok (.getfield 24, 3) := by decide +kernel
theorem dX1_solve_5 : decode cX1_solve 5 = .ok (.putfield 30, 3) := by decide +kernel
theorem dX1_solve_8 : decode cX1_solve 8 = .ok (.iconst 0, 1) := by decide +kernel
theorem dX1_solve_9 : decode cX1_solve 9 = .ok (.istore 4, 2) := by decide +kernel
theorem dX1_solve_11 : decode cX1_solve 11 = .ok (.iload 4, 2) := by decide +kernel
theorem dX1_solve_13 : decode cX1_solve 13 = .ok (.aload_n 0, 1) := by decide +kernel
theorem dX1_solve_14 : decode cX1_solve 14 = .ok (.getfield 30, 3) := by decide +kernel
theorem dX1_solve_17 : decode cX1_solve 17 = .ok (.if_icmp .ge 37, 3) := by decide +kernel
theorem dX1_solve_20 : decode cX1_solve 20 = .ok (.aload_n 0, 1) := by decide +kernel
theorem dX1_solve_21 : decode cX1_solve 21 = .ok (.getfield 18, 3) := by decide +kernel
theorem dX1_solve_24 : decode cX1_solve 24 = .ok (.iload 4, 2) := by decide +kernel
theorem dX1_solve_26 : decode cX1_solve 26 = .ok (.aload_n 1, 1) := by decide +kernel
theorem dX1_solve_27 : decode cX1_solve 27 = .ok (.iload_n 3, 1) := by decide +kernel
theorem dX1_solve_28 : decode cX1_solve 28 = .ok (.iload 4, 2) := by decide +kernel
theorem dX1_solve_30 : decode cX1_solve 30 = .ok (.invokevirtual 31, 3) := by decide +kernel
theorem dX1_solve_33 : decode cX1_solve 33 = .ok (.iastore, 1) := by decide +kernel
theorem dX1_solve_34 : decode cX1_solve 34 = .ok (.aload_n 0, 1) := by decide +kernel
theorem dX1_solve_35 : decode cX1_solve 35 = .ok (.getfield 21, 3) := by decide +kernel
theorem dX1_solve_38 : decode cX1_solve 38 = .ok (.iload 4, 2) := by decide +kernel
theorem dX1_solve_40 : decode cX1_solve 40 = .ok (.aload_n 1, 1) := by decide +kernel
theorem dX1_solve_41 : decode cX1_solve 41 = .ok (.getfield 35, 3) := by decide +kernel
theorem dX1_solve_44 : decode cX1_solve 44 = .ok (.iload 4, 2) := by decide +kernel
theorem dX1_solve_46 : decode cX1_solve 46 = .ok (.iaload, 1) := by decide +kernel
theorem dX1_solve_47 : decode cX1_solve 47 = .ok (.iastore, 1) := by decide +kernel
theorem dX1_solve_48 : decode cX1_solve 48 = .ok (.iinc 4 1, 3) := by decide +kernel
theorem dX1_solve_51 : decode cX1_solve 51 = .ok (.goto (-40), 3) := by decide +kernel
theorem dX1_solve_54 : decode cX1_solve 54 = .ok (.aload_n 0, 1) := by decide +kernel
theorem dX1_solve_55 : decode cX1_solve 55 = .ok (.iconst 0, 1) := by decide +kernel
theorem dX1_solve_56 : decode cX1_solve 56 = .ok (.aload_n 2, 1) := by decide +kernel
theorem dX1_solve_57 : decode cX1_solve 57 = .ok (.getfield 36, 3) := by decide +kernel
theorem dX1_solve_60 : decode cX1_solve 60 = .ok (.iload_n 3, 1) := by decide +kernel
theorem dX1_solve_61 : decode cX1_solve 61 = .ok (.iaload, 1) := by decide +kernel
theorem dX1_solve_62 : decode cX1_solve 62 = .ok (.bipush 30, 2) := by decide +kernel
theorem dX1_solve_64 : decode cX1_solve 64 = .ok (.invokestatic 41, 3) := by decide +kernel
theorem dX1_solve_67 : decode cX1_solve 67 = .ok (.invokestatic 46, 3) := by decide +kernel
theorem dX1_solve_70 : decode cX1_solve 70 = .ok (.putfield 49, 3) := by decide +kernel
theorem dX1_solve_73 : decode cX1_solve 73 = .ok (.aload_n 0, 1) := by decide +kernel
theorem dX1_solve_74 : decode cX1_solve 74 = .ok (.aload_n 2, 1) := by decide +kernel
theorem dX1_solve_75 : decode cX1_solve 75 = .ok (.getfield 51, 3) := by decide +kernel
theorem dX1_solve_78 : decode cX1_solve 78 = .ok (.iload_n 3, 1) := by decide +kernel
theorem dX1_solve_79 : decode cX1_solve 79 = .ok (.iaload, 1) := by decide +kernel
theorem dX1_solve_80 : decode cX1_solve 80 = .ok (.bipush (-9), 2) := by decide +kernel
theorem dX1_solve_82 : decode cX1_solve 82 = .ok (.if_icmp .ne 7, 3) := by decide +kernel
theorem dX1_solve_85 : decode cX1_solve 85 = .ok (.iconst 5, 1) := by decide +kernel
theorem dX1_solve_86 : decode cX1_solve 86 = .ok (.goto 9, 3) := by decide +kernel
theorem dX1_solve_89 : decode cX1_solve 89 = .ok (.aload_n 2, 1) := by decide +kernel
theorem dX1_solve_90 : decode cX1_solve 90 = .ok (.getfield 51, 3) := by decide +kernel
theorem dX1_solve_93 : decode cX1_solve 93 = .ok (.iload_n 3, 1) := by decide +kernel
theorem dX1_solve_94 : decode cX1_solve 94 = .ok (.iaload, 1) := by decide +kernel
theorem dX1_solve_95 : decode cX1_solve 95 = .ok (.putfield 54, 3) := by decide +kernel
theorem dX1_solve_98 : decode cX1_solve 98 = .ok (.aload_n 0, 1) := by decide +kernel
theorem dX1_solve_99 : decode cX1_solve 99 = .ok (.getfield 11, 3) := by decide +kernel
theorem dX1_solve_102 : decode cX1_solve 102 = .ok (.ldc 57, 2) := by decide +kernel
theorem dX1_solve_104 : decode cX1_solve 104 = .ok (.invokestatic 58, 3) := by decide +kernel
theorem dX1_solve_107 : decode cX1_solve 107 = .ok (.iconst 0, 1) := by decide +kernel
theorem dX1_solve_108 : decode cX1_solve 108 = .ok (.istore 4, 2) := by decide +kernel
theorem dX1_solve_110 : decode cX1_solve 110 = .ok (.iload 4, 2) := by decide +kernel
theorem dX1_solve_112 : decode cX1_solve 112 = .ok (.aload_n 0, 1) := by decide +kernel
theorem dX1_solve_113 : decode cX1_solve 113 = .ok (.getfield 49, 3) := by decide +kernel
theorem dX1_solve_116 : decode cX1_solve 116 = .ok (.if_icmp .gt 21, 3) := by decide +kernel
theorem dX1_solve_119 : decode cX1_solve 119 = .ok (.aload_n 0, 1) := by decide +kernel
theorem dX1_solve_120 : decode cX1_solve 120 = .ok (.iload 4, 2) := by decide +kernel
theorem dX1_solve_122 : decode cX1_solve 122 = .ok (.invokevirtual 64, 3) := by decide +kernel
theorem dX1_solve_125 : decode cX1_solve 125 = .ok (.aload_n 0, 1) := by decide +kernel
theorem dX1_solve_126 : decode cX1_solve 126 = .ok (.iload 4, 2) := by decide +kernel
theorem dX1_solve_128 : decode cX1_solve 128 = .ok (.invokevirtual 64, 3) := by decide +kernel
theorem dX1_solve_131 : decode cX1_solve 131 = .ok (.iinc 4 1, 3) := by decide +kernel
theorem dX1_solve_134 : decode cX1_solve 134 = .ok (.goto (-24), 3) := by decide +kernel
theorem dX1_solve_137 : decode cX1_solve 137 = .ok (.return_, 1) := by decide +kernel
theorem dX1_solveLevel_0 : decode cX1_solveLevel 0 = .ok (.iconst 0, 1) := by decide +kernel
theorem dX1_solveLevel_1 : decode cX1_solveLevel 1 = .ok (.istore_n 2, 1) := by decide +kernel
theorem dX1_solveLevel_2 : decode cX1_solveLevel 2 = .ok (.iload_n 2, 1) := by decide +kernel
theorem dX1_solveLevel_3 : decode cX1_solveLevel 3 = .ok (.bipush 6, 2) := by decide +kernel
theorem dX1_solveLevel_5 : decode cX1_solveLevel 5 = .ok (.if_icmp .ge 56, 3) := by decide +kernel
theorem dX1_solveLevel_8 : decode cX1_solveLevel 8 = .ok (.iconst 0, 1) := by decide +kernel
theorem dX1_solveLevel_9 : decode cX1_solveLevel 9 = .ok (.istore_n 3, 1) := by decide +kernel
theorem dX1_solveLevel_10 : decode cX1_solveLevel 10 = .ok (.iload_n 3, 1) := by decide +kernel
theorem dX1_solveLevel_11 : decode cX1_solveLevel 11 = .ok (.aload_n 0, 1) := by decide +kernel
theorem dX1_solveLevel_12 : decode cX1_solveLevel 12 = .ok (.getfield 30, 3) := by decide +kernel
theorem dX1_solveLevel_15 : decode cX1_solveLevel 15 = .ok (.if_icmp .ge 40, 3) := by decide +kernel
theorem dX1_solveLevel_18 : decode cX1_solveLevel 18 = .ok (.iload_n 1, 1) := by decide +kernel
theorem dX1_solveLevel_19 : decode cX1_solveLevel 19 = .ok (.iload_n 2, 1) := by decide +kernel
theorem dX1_solveLevel_20 : decode cX1_solveLevel 20 = .ok (.invokestatic 68, 3) := by decide +kernel
theorem dX1_solveLevel_23 : decode cX1_solveLevel 23 = .ok (.istore 4, 2) := by decide +kernel
theorem dX1_solveLevel_25 : decode cX1_solveLevel 25 = .ok (.aload_n 0, 1) := by decide +kernel
theorem dX1_solveLevel_26 : decode cX1_solveLevel 26 = .ok (.getfield 11, 3) := by decide +kernel
theorem dX1_solveLevel_29 : decode cX1_solveLevel 29 = .ok (.iload 4, 2) := by decide +kernel
theorem dX1_solveLevel_31 : decode cX1_solveLevel 31 = .ok (.aload_n 0, 1) := by decide +kernel
theorem dX1_solveLevel_32 : decode cX1_solveLevel 32 = .ok (.getfield 11, 3) := by decide +kernel
theorem dX1_solveLevel_35 : decode cX1_solveLevel 35 = .ok (.iload 4, 2) := by decide +kernel
theorem dX1_solveLevel_37 : decode cX1_solveLevel 37 = .ok (.iaload, 1) := by decide +kernel
theorem dX1_solveLevel_38 : decode cX1_solveLevel 38 = .ok (.aload_n 0, 1) := by decide +kernel
theorem dX1_solveLevel_39 : decode cX1_solveLevel 39 = .ok (.iload_n 1, 1) := by decide +kernel
theorem dX1_solveLevel_40 : decode cX1_solveLevel 40 = .ok (.iload_n 2, 1) := by decide +kernel
theorem dX1_solveLevel_41 : decode cX1_solveLevel 41 = .ok (.iload_n 3, 1) := by decide +kernel
theorem dX1_solveLevel_42 : decode cX1_solveLevel 42 = .ok (.invokevirtual 71, 3) := by decide +kernel
theorem dX1_solveLevel_45 : decode cX1_solveLevel 45 = .ok (.invokestatic 41, 3) := by decide +kernel
theorem dX1_solveLevel_48 : decode cX1_solveLevel 48 = .ok (.iastore, 1) := by decide +kernel
theorem dX1_solveLevel_49 : decode cX1_solveLevel 49 = .ok (.iinc 3 1, 3) := by decide +kernel
theorem dX1_solveLevel_52 : decode cX1_solveLevel 52 = .ok (.goto (-42), 3) := by decide +kernel
theorem dX1_solveLevel_55 : decode cX1_solveLevel 55 = .ok (.iinc 2 1, 3) := by decide +kernel
theorem dX1_solveLevel_58 : decode cX1_solveLevel 58 = .ok (.goto (-56), 3) := by decide +kernel
theorem dX1_solveLevel_61 : decode cX1_solveLevel 61 = .ok (.return_, 1) := by decide +kernel
theorem dX1_indexOf_0 : decode cX1_indexOf 0 = .ok (.iload_n 0, 1) := by decide +kernel
theorem dX1_indexOf_1 : decode cX1_indexOf 1 = .ok (.bipush 6, 2) := by decide +kernel
theorem dX1_indexOf_3 : decode cX1_indexOf 3 = .ok (.imul, 1) := by decide +kernel
theorem dX1_indexOf_4 : decode cX1_indexOf 4 = .ok (.iload_n 1, 1) := by decide +kernel
theorem dX1_indexOf_5 : decode cX1_indexOf 5 = .ok (.iadd, 1) := by decide +kernel
theorem dX1_indexOf_6 : decode cX1_indexOf 6 = .ok (.ireturn, 1) := by decide +kernel
theorem dX1_costThrough_0 : decode cX1_costThrough 0 = .ok (.iload_n 1, 1) := by decide +kernel
theorem dX1_costThrough_1 : decode cX1_costThrough 1 = .ok (.aload_n 0, 1) := by decide +kernel
theorem dX1_costThrough_2 : decode cX1_costThrough 2 = .ok (.getfield 18, 3) := by decide +kernel
theorem dX1_costThrough_5 : decode cX1_costThrough 5 = .ok (.iload_n 3, 1) := by decide +kernel
theorem dX1_costThrough_6 : decode cX1_costThrough 6 = .ok (.iaload, 1) := by decide +kernel
theorem dX1_costThrough_7 : decode cX1_costThrough 7 = .ok (.iload_n 2, 1) := by decide +kernel
theorem dX1_costThrough_8 : decode cX1_costThrough 8 = .ok (.iload_n 3, 1) := by decide +kernel
theorem dX1_costThrough_9 : decode cX1_costThrough 9 = .ok (.if_icmp .ne 7, 3) := by decide +kernel
theorem dX1_costThrough_12 : decode cX1_costThrough 12 = .ok (.iconst 1, 1) := by decide +kernel
theorem dX1_costThrough_13 : decode cX1_costThrough 13 = .ok (.goto 4, 3) := by decide +kernel
theorem dX1_costThrough_16 : decode cX1_costThrough 16 = .ok (.iconst 0, 1) := by decide +kernel
theorem dX1_costThrough_17 : decode cX1_costThrough 17 = .ok (.invokestatic 75, 3) := by decide +kernel
theorem dX1_costThrough_20 : decode cX1_costThrough 20 = .ok (.isub, 1) := by decide +kernel
theorem dX1_costThrough_21 : decode cX1_costThrough 21 = .ok (.istore 4, 2) := by decide +kernel
theorem dX1_costThrough_23 : decode cX1_costThrough 23 = .ok (.iload 4, 2) := by decide +kernel
theorem dX1_costThrough_25 : decode cX1_costThrough 25 = .ok (.ifCond .ge 7, 3) := by decide +kernel
theorem dX1_costThrough_28 : decode cX1_costThrough 28 = .ok (.iconst 0, 1) := by decide +kernel
theorem dX1_costThrough_29 : decode cX1_costThrough 29 = .ok (.goto 14, 3) := by decide +kernel
theorem dX1_costThrough_32 : decode cX1_costThrough 32 = .ok (.aload_n 0, 1) := by decide +kernel
theorem dX1_costThrough_33 : decode cX1_costThrough 33 = .ok (.getfield 11, 3) := by decide +kernel
theorem dX1_costThrough_36 : decode cX1_costThrough 36 = .ok (.iload 4, 2) := by decide +kernel
theorem dX1_costThrough_38 : decode cX1_costThrough 38 = .ok (.iload_n 3, 1) := by decide +kernel
theorem dX1_costThrough_39 : decode cX1_costThrough 39 = .ok (.invokestatic 68, 3) := by decide +kernel
theorem dX1_costThrough_42 : decode cX1_costThrough 42 = .ok (.iaload, 1) := by decide +kernel
theorem dX1_costThrough_43 : decode cX1_costThrough 43 = .ok (.istore 5, 2) := by decide +kernel
theorem dX1_costThrough_45 : decode cX1_costThrough 45 = .ok (.iload 5, 2) := by decide +kernel
theorem dX1_costThrough_47 : decode cX1_costThrough 47 = .ok (.ldc 57, 2) := by decide +kernel
theorem dX1_costThrough_49 : decode cX1_costThrough 49 = .ok (.if_icmp .lt 8, 3) := by decide +kernel
theorem dX1_costThrough_52 : decode cX1_costThrough 52 = .ok (.ldc 57, 2) := by decide +kernel
theorem dX1_costThrough_54 : decode cX1_costThrough 54 = .ok (.goto 18, 3) := by decide +kernel
theorem dX1_costThrough_57 : decode cX1_costThrough 57 = .ok (.aload_n 0, 1) := by decide +kernel
theorem dX1_costThrough_58 : decode cX1_costThrough 58 = .ok (.getfield 21, 3) := by decide +kernel
theorem dX1_costThrough_61 : decode cX1_costThrough 61 = .ok (.iload_n 3, 1) := by decide +kernel
theorem dX1_costThrough_62 : decode cX1_costThrough 62 = .ok (.iaload, 1) := by decide +kernel
theorem dX1_costThrough_63 : decode cX1_costThrough 63 = .ok (.sipush 1000, 3) := by decide +kernel
theorem dX1_costThrough_66 : decode cX1_costThrough 66 = .ok (.imul, 1) := by decide +kernel
theorem dX1_costThrough_67 : decode cX1_costThrough 67 = .ok (.iconst 1, 1) := by decide +kernel
theorem dX1_costThrough_68 : decode cX1_costThrough 68 = .ok (.iadd, 1) := by decide +kernel
theorem dX1_costThrough_69 : decode cX1_costThrough 69 = .ok (.iload 5, 2) := by decide +kernel
theorem dX1_costThrough_71 : decode cX1_costThrough 71 = .ok (.iadd, 1) := by decide +kernel
theorem dX1_costThrough_72 : decode cX1_costThrough 72 = .ok (.ireturn, 1) := by decide +kernel
theorem dX1_costNow_0 : decode cX1_costNow 0 = .ok (.aload_n 0, 1) := by decide +kernel
theorem dX1_costNow_1 : decode cX1_costNow 1 = .ok (.getfield 11, 3) := by decide +kernel
theorem dX1_costNow_4 : decode cX1_costNow 4 = .ok (.aload_n 0, 1) := by decide +kernel
theorem dX1_costNow_5 : decode cX1_costNow 5 = .ok (.getfield 49, 3) := by decide +kernel
theorem dX1_costNow_8 : decode cX1_costNow 8 = .ok (.aload_n 0, 1) := by decide +kernel
theorem dX1_costNow_9 : decode cX1_costNow 9 = .ok (.getfield 54, 3) := by decide +kernel
theorem dX1_costNow_12 : decode cX1_costNow 12 = .ok (.invokestatic 68, 3) := by decide +kernel
theorem dX1_costNow_15 : decode cX1_costNow 15 = .ok (.iaload, 1) := by decide +kernel
theorem dX1_costNow_16 : decode cX1_costNow 16 = .ok (.ireturn, 1) := by decide +kernel
theorem dX1_isNever_0 : decode cX1_isNever 0 = .ok (.aload_n 0, 1) := by decide +kernel
theorem dX1_isNever_1 : decode cX1_isNever 1 = .ok (.invokevirtual 79, 3) := by decide +kernel
theorem dX1_isNever_4 : decode cX1_isNever 4 = .ok (.ldc 57, 2) := by decide +kernel
theorem dX1_isNever_6 : decode cX1_isNever 6 = .ok (.if_icmp .lt 7, 3) := by decide +kernel
theorem dX1_isNever_9 : decode cX1_isNever 9 = .ok (.iconst 1, 1) := by decide +kernel
theorem dX1_isNever_10 : decode cX1_isNever 10 = .ok (.goto 4, 3) := by decide +kernel
theorem dX1_isNever_13 : decode cX1_isNever 13 = .ok (.iconst 0, 1) := by decide +kernel
theorem dX1_isNever_14 : decode cX1_isNever 14 = .ok (.ireturn, 1) := by decide +kernel
theorem dX1_minutesNeeded_0 : decode cX1_minutesNeeded 0 = .ok (.aload_n 0, 1) := by decide +kernel
theorem dX1_minutesNeeded_1 : decode cX1_minutesNeeded 1 = .ok (.invokevirtual 79, 3) := by decide +kernel
theorem dX1_minutesNeeded_4 : decode cX1_minutesNeeded 4 = .ok (.sipush 1000, 3) := by decide +kernel
theorem dX1_minutesNeeded_7 : decode cX1_minutesNeeded 7 = .ok (.idiv, 1) := by decide +kernel
theorem dX1_minutesNeeded_8 : decode cX1_minutesNeeded 8 = .ok (.ireturn, 1) := by decide +kernel
theorem dX1_doingsNeeded_0 : decode cX1_doingsNeeded 0 = .ok (.aload_n 0, 1) := by decide +kernel
theorem dX1_doingsNeeded_1 : decode cX1_doingsNeeded 1 = .ok (.invokevirtual 79, 3) := by decide +kernel
theorem dX1_doingsNeeded_4 : decode cX1_doingsNeeded 4 = .ok (.sipush 1000, 3) := by decide +kernel
theorem dX1_doingsNeeded_7 : decode cX1_doingsNeeded 7 = .ok (.irem, 1) := by decide +kernel
theorem dX1_doingsNeeded_8 : decode cX1_doingsNeeded 8 = .ok (.ireturn, 1) := by decide +kernel
theorem dX1_doingAt_0 : decode cX1_doingAt 0 = .ok (.iload_n 1, 1) := by decide +kernel
theorem dX1_doingAt_1 : decode cX1_doingAt 1 = .ok (.ifCond .lt 11, 3) := by decide +kernel
theorem dX1_doingAt_4 : decode cX1_doingAt 4 = .ok (.iload_n 1, 1) := by decide +kernel
theorem dX1_doingAt_5 : decode cX1_doingAt 5 = .ok (.aload_n 0, 1) := by decide +kernel
theorem dX1_doingAt_6 : decode cX1_doingAt 6 = .ok (.invokevirtual 83, 3) := by decide +kernel
theorem dX1_doingAt_9 : decode cX1_doingAt 9 = .ok (.if_icmp .lt 6, 3) := by decide +kernel
theorem dX1_doingAt_12 : decode cX1_doingAt 12 = .ok (.bipush (-5), 2) := by decide +kernel
theorem dX1_doingAt_14 : decode cX1_doingAt 14 = .ok (.ireturn, 1) := by decide +kernel
theorem dX1_doingAt_15 : decode cX1_doingAt 15 = .ok (.aload_n 0, 1) := by decide +kernel
theorem dX1_doingAt_16 : decode cX1_doingAt 16 = .ok (.getfield 49, 3) := by decide +kernel
theorem dX1_doingAt_19 : decode cX1_doingAt 19 = .ok (.istore_n 2, 1) := by decide +kernel
theorem dX1_doingAt_20 : decode cX1_doingAt 20 = .ok (.aload_n 0, 1) := by decide +kernel
theorem dX1_doingAt_21 : decode cX1_doingAt 21 = .ok (.getfield 54, 3) := by decide +kernel
theorem dX1_doingAt_24 : decode cX1_doingAt 24 = .ok (.istore_n 3, 1) := by decide +kernel
theorem dX1_doingAt_25 : decode cX1_doingAt 25 = .ok (.iconst 0, 1) := by decide +kernel
theorem dX1_doingAt_26 : decode cX1_doingAt 26 = .ok (.istore 4, 2) := by decide +kernel
theorem dX1_doingAt_28 : decode cX1_doingAt 28 = .ok (.iload 4, 2) := by decide +kernel
theorem dX1_doingAt_30 : decode cX1_doingAt 30 = .ok (.iload_n 1, 1) := by decide +kernel
theorem dX1_doingAt_31 : decode cX1_doingAt 31 = .ok (.if_icmp .ge 48, 3) := by decide +kernel
theorem dX1_doingAt_34 : decode cX1_doingAt 34 = .ok (.iload_n 2, 1) := by decide +kernel
theorem dX1_doingAt_35 : decode cX1_doingAt 35 = .ok (.ifCond .lt 44, 3) := by decide +kernel
theorem dX1_doingAt_38 : decode cX1_doingAt 38 = .ok (.aload_n 0, 1) := by decide +kernel
theorem dX1_doingAt_39 : decode cX1_doingAt 39 = .ok (.iload_n 2, 1) := by decide +kernel
theorem dX1_doingAt_40 : decode cX1_doingAt 40 = .ok (.iload_n 3, 1) := by decide +kernel
theorem dX1_doingAt_41 : decode cX1_doingAt 41 = .ok (.invokevirtual 86, 3) := by decide +kernel
theorem dX1_doingAt_44 : decode cX1_doingAt 44 = .ok (.istore 5, 2) := by decide +kernel
theorem dX1_doingAt_46 : decode cX1_doingAt 46 = .ok (.iload_n 2, 1) := by decide +kernel
theorem dX1_doingAt_47 : decode cX1_doingAt 47 = .ok (.aload_n 0, 1) := by decide +kernel
theorem dX1_doingAt_48 : decode cX1_doingAt 48 = .ok (.getfield 18, 3) := by decide +kernel
theorem dX1_doingAt_51 : decode cX1_doingAt 51 = .ok (.iload 5, 2) := by decide +kernel
theorem dX1_doingAt_53 : decode cX1_doingAt 53 = .ok (.iaload, 1) := by decide +kernel
theorem dX1_doingAt_54 : decode cX1_doingAt 54 = .ok (.iload_n 3, 1) := by decide +kernel
theorem dX1_doingAt_55 : decode cX1_doingAt 55 = .ok (.iload 5, 2) := by decide +kernel
theorem dX1_doingAt_57 : decode cX1_doingAt 57 = .ok (.if_icmp .ne 7, 3) := by decide +kernel
theorem dX1_doingAt_60 : decode cX1_doingAt 60 = .ok (.iconst 1, 1) := by decide +kernel
theorem dX1_doingAt_61 : decode cX1_doingAt 61 = .ok (.goto 4, 3) := by decide +kernel
theorem dX1_doingAt_64 : decode cX1_doingAt 64 = .ok (.iconst 0, 1) := by decide +kernel
theorem dX1_doingAt_65 : decode cX1_doingAt 65 = .ok (.invokestatic 75, 3) := by decide +kernel
theorem dX1_doingAt_68 : decode cX1_doingAt 68 = .ok (.isub, 1) := by decide +kernel
theorem dX1_doingAt_69 : decode cX1_doingAt 69 = .ok (.istore_n 2, 1) := by decide +kernel
theorem dX1_doingAt_70 : decode cX1_doingAt 70 = .ok (.iload 5, 2) := by decide +kernel
theorem dX1_doingAt_72 : decode cX1_doingAt 72 = .ok (.istore_n 3, 1) := by decide +kernel
theorem dX1_doingAt_73 : decode cX1_doingAt 73 = .ok (.iinc 4 1, 3) := by decide +kernel
theorem dX1_doingAt_76 : decode cX1_doingAt 76 = .ok (.goto (-48), 3) := by decide +kernel
theorem dX1_doingAt_79 : decode cX1_doingAt 79 = .ok (.iload_n 2, 1) := by decide +kernel
theorem dX1_doingAt_80 : decode cX1_doingAt 80 = .ok (.ifCond .ge 8, 3) := by decide +kernel
theorem dX1_doingAt_83 : decode cX1_doingAt 83 = .ok (.bipush (-5), 2) := by decide +kernel
theorem dX1_doingAt_85 : decode cX1_doingAt 85 = .ok (.goto 9, 3) := by decide +kernel
theorem dX1_doingAt_88 : decode cX1_doingAt 88 = .ok (.aload_n 0, 1) := by decide +kernel
theorem dX1_doingAt_89 : decode cX1_doingAt 89 = .ok (.iload_n 2, 1) := by decide +kernel
theorem dX1_doingAt_90 : decode cX1_doingAt 90 = .ok (.iload_n 3, 1) := by decide +kernel
theorem dX1_doingAt_91 : decode cX1_doingAt 91 = .ok (.invokevirtual 86, 3) := by decide +kernel
theorem dX1_doingAt_94 : decode cX1_doingAt 94 = .ok (.ireturn, 1) := by decide +kernel
theorem dX1_firstOfBest_0 : decode cX1_firstOfBest 0 = .ok (.iconst 0, 1) := by decide +kernel
theorem dX1_firstOfBest_1 : decode cX1_firstOfBest 1 = .ok (.istore_n 3, 1) := by decide +kernel
theorem dX1_firstOfBest_2 : decode cX1_firstOfBest 2 = .ok (.iload_n 3, 1) := by decide +kernel
theorem dX1_firstOfBest_3 : decode cX1_firstOfBest 3 = .ok (.aload_n 0, 1) := by decide +kernel
theorem dX1_firstOfBest_4 : decode cX1_firstOfBest 4 = .ok (.getfield 30, 3) := by decide +kernel
theorem dX1_firstOfBest_7 : decode cX1_firstOfBest 7 = .ok (.if_icmp .ge 31, 3) := by decide +kernel
theorem dX1_firstOfBest_10 : decode cX1_firstOfBest 10 = .ok (.aload_n 0, 1) := by decide +kernel
theorem dX1_firstOfBest_11 : decode cX1_firstOfBest 11 = .ok (.iload_n 1, 1) := by decide +kernel
theorem dX1_firstOfBest_12 : decode cX1_firstOfBest 12 = .ok (.iload_n 2, 1) := by decide +kernel
theorem dX1_firstOfBest_13 : decode cX1_firstOfBest 13 = .ok (.iload_n 3, 1) := by decide +kernel
theorem dX1_firstOfBest_14 : decode cX1_firstOfBest 14 = .ok (.invokevirtual 71, 3) := by decide +kernel
theorem dX1_firstOfBest_17 : decode cX1_firstOfBest 17 = .ok (.aload_n 0, 1) := by decide +kernel
theorem dX1_firstOfBest_18 : decode cX1_firstOfBest 18 = .ok (.getfield 11, 3) := by decide +kernel
theorem dX1_firstOfBest_21 : decode cX1_firstOfBest 21 = .ok (.iload_n 1, 1) := by decide +kernel
theorem dX1_firstOfBest_22 : decode cX1_firstOfBest 22 = .ok (.iload_n 2, 1) := by decide +kernel
theorem dX1_firstOfBest_23 : decode cX1_firstOfBest 23 = .ok (.invokestatic 68, 3) := by decide +kernel
theorem dX1_firstOfBest_26 : decode cX1_firstOfBest 26 = .ok (.iaload, 1) := by decide +kernel
theorem dX1_firstOfBest_27 : decode cX1_firstOfBest 27 = .ok (.if_icmp .ne 5, 3) := by decide +kernel
theorem dX1_firstOfBest_30 : decode cX1_firstOfBest 30 = .ok (.iload_n 3, 1) := by decide +kernel
theorem dX1_firstOfBest_31 : decode cX1_firstOfBest 31 = .ok (.ireturn, 1) := by decide +kernel
theorem dX1_firstOfBest_32 : decode cX1_firstOfBest 32 = .ok (.iinc 3 1, 3) := by decide +kernel
theorem dX1_firstOfBest_35 : decode cX1_firstOfBest 35 = .ok (.goto (-33), 3) := by decide +kernel
theorem dX1_firstOfBest_38 : decode cX1_firstOfBest 38 = .ok (.iconst 0, 1) := by decide +kernel
theorem dX1_firstOfBest_39 : decode cX1_firstOfBest 39 = .ok (.ireturn, 1) := by decide +kernel
theorem dX1_solveAll_0 : decode cX1_solveAll 0 = .ok (.aload_n 0, 1) := by decide +kernel
theorem dX1_solveAll_1 : decode cX1_solveAll 1 = .ok (.getfield 15, 3) := by decide +kernel
theorem dX1_solveAll_4 : decode cX1_solveAll 4 = .ok (.bipush (-9), 2) := by decide +kernel
theorem dX1_solveAll_6 : decode cX1_solveAll 6 = .ok (.invokestatic 58, 3) := by decide +kernel
theorem dX1_solveAll_9 : decode cX1_solveAll 9 = .ok (.iconst 0, 1) := by decide +kernel
theorem dX1_solveAll_10 : decode cX1_solveAll 10 = .ok (.istore_n 3, 1) := by decide +kernel
theorem dX1_solveAll_11 : decode cX1_solveAll 11 = .ok (.iload_n 3, 1) := by decide +kernel
theorem dX1_solveAll_12 : decode cX1_solveAll 12 = .ok (.aload_n 1, 1) := by decide +kernel
theorem dX1_solveAll_13 : decode cX1_solveAll 13 = .ok (.getfield 89, 3) := by decide +kernel
theorem dX1_solveAll_16 : decode cX1_solveAll 16 = .ok (.if_icmp .ge 46, 3) := by decide +kernel
theorem dX1_solveAll_19 : decode cX1_solveAll 19 = .ok (.aload_n 2, 1) := by decide +kernel
theorem dX1_solveAll_20 : decode cX1_solveAll 20 = .ok (.iload_n 3, 1) := by decide +kernel
theorem dX1_solveAll_21 : decode cX1_solveAll 21 = .ok (.invokevirtual 92, 3) := by decide +kernel
theorem dX1_solveAll_24 : decode cX1_solveAll 24 = .ok (.ifCond .ne 32, 3) := by decide +kernel
theorem dX1_solveAll_27 : decode cX1_solveAll 27 = .ok (.aload_n 0, 1) := by decide +kernel
theorem dX1_solveAll_28 : decode cX1_solveAll 28 = .ok (.aload_n 1, 1) := by decide +kernel
theorem dX1_solveAll_29 : decode cX1_solveAll 29 = .ok (.aload_n 2, 1) := by decide +kernel
theorem dX1_solveAll_30 : decode cX1_solveAll 30 = .ok (.iload_n 3, 1) := by decide +kernel
theorem dX1_solveAll_31 : decode cX1_solveAll 31 = .ok (.invokevirtual 96, 3) := by decide +kernel
theorem dX1_solveAll_34 : decode cX1_solveAll 34 = .ok (.aload_n 0, 1) := by decide +kernel
theorem dX1_solveAll_35 : decode cX1_solveAll 35 = .ok (.getfield 15, 3) := by decide +kernel
theorem dX1_solveAll_38 : decode cX1_solveAll 38 = .ok (.iload_n 3, 1) := by decide +kernel
theorem dX1_solveAll_39 : decode cX1_solveAll 39 = .ok (.aload_n 0, 1) := by decide +kernel
theorem dX1_solveAll_40 : decode cX1_solveAll 40 = .ok (.invokevirtual 100, 3) := by decide +kernel
theorem dX1_solveAll_43 : decode cX1_solveAll 43 = .ok (.ifCond .eq 8, 3) := by decide +kernel
theorem dX1_solveAll_46 : decode cX1_solveAll 46 = .ok (.bipush (-9), 2) := by decide +kernel
theorem dX1_solveAll_48 : decode cX1_solveAll 48 = .ok (.goto 7, 3) := by decide +kernel
theorem dX1_solveAll_51 : decode cX1_solveAll 51 = .ok (.aload_n 0, 1) := by decide +kernel
theorem dX1_solveAll_52 : decode cX1_solveAll 52 = .ok (.invokevirtual 104, 3) := by decide +kernel
theorem dX1_solveAll_55 : decode cX1_solveAll 55 = .ok (.iastore, 1) := by decide +kernel
theorem dX1_solveAll_56 : decode cX1_solveAll 56 = .ok (.iinc 3 1, 3) := by decide +kernel
theorem dX1_solveAll_59 : decode cX1_solveAll 59 = .ok (.goto (-48), 3) := by decide +kernel
theorem dX1_solveAll_62 : decode cX1_solveAll 62 = .ok (.return_, 1) := by decide +kernel
theorem dX1_cheapestBut_0 : decode cX1_cheapestBut 0 = .ok (.bipush (-9), 2) := by decide +kernel
theorem dX1_cheapestBut_2 : decode cX1_cheapestBut 2 = .ok (.istore_n 2, 1) := by decide +kernel
theorem dX1_cheapestBut_3 : decode cX1_cheapestBut 3 = .ok (.ldc 57, 2) := by decide +kernel
theorem dX1_cheapestBut_5 : decode cX1_cheapestBut 5 = .ok (.istore_n 3, 1) := by decide +kernel
theorem dX1_cheapestBut_6 : decode cX1_cheapestBut 6 = .ok (.iconst 0, 1) := by decide +kernel
theorem dX1_cheapestBut_7 : decode cX1_cheapestBut 7 = .ok (.istore 4, 2) := by decide +kernel
theorem dX1_cheapestBut_9 : decode cX1_cheapestBut 9 = .ok (.iload 4, 2) := by decide +kernel
theorem dX1_cheapestBut_11 : decode cX1_cheapestBut 11 = .ok (.iconst 5, 1) := by decide +kernel
theorem dX1_cheapestBut_12 : decode cX1_cheapestBut 12 = .ok (.if_icmp .ge 64, 3) := by decide +kernel
theorem dX1_cheapestBut_15 : decode cX1_cheapestBut 15 = .ok (.aload_n 0, 1) := by decide +kernel
theorem dX1_cheapestBut_16 : decode cX1_cheapestBut 16 = .ok (.getfield 15, 3) := by decide +kernel
theorem dX1_cheapestBut_19 : decode cX1_cheapestBut 19 = .ok (.iload 4, 2) := by decide +kernel
theorem dX1_cheapestBut_21 : decode cX1_cheapestBut 21 = .ok (.iaload, 1) := by decide +kernel
theorem dX1_cheapestBut_22 : decode cX1_cheapestBut 22 = .ok (.bipush (-9), 2) := by decide +kernel
theorem dX1_cheapestBut_24 : decode cX1_cheapestBut 24 = .ok (.if_icmp .eq 16, 3) := by decide +kernel
theorem dX1_cheapestBut_27 : decode cX1_cheapestBut 27 = .ok (.iload_n 1, 1) := by decide +kernel
theorem dX1_cheapestBut_28 : decode cX1_cheapestBut 28 = .ok (.iload 4, 2) := by decide +kernel
theorem dX1_cheapestBut_30 : decode cX1_cheapestBut 30 = .ok (.ishr, 1) := by decide +kernel
theorem dX1_cheapestBut_31 : decode cX1_cheapestBut 31 = .ok (.iconst 1, 1) := by decide +kernel
theorem dX1_cheapestBut_32 : decode cX1_cheapestBut 32 = .ok (.iand, 1) := by decide +kernel
theorem dX1_cheapestBut_33 : decode cX1_cheapestBut 33 = .ok (.ifCond .ne 7, 3) := by decide +kernel
theorem dX1_cheapestBut_36 : decode cX1_cheapestBut 36 = .ok (.iconst 1, 1) := by decide +kernel
theorem dX1_cheapestBut_37 : decode cX1_cheapestBut 37 = .ok (.goto 4, 3) := by decide +kernel
theorem dX1_cheapestBut_40 : decode cX1_cheapestBut 40 = .ok (.iconst 0, 1) := by decide +kernel
theorem dX1_cheapestBut_41 : decode cX1_cheapestBut 41 = .ok (.istore 5, 2) := by decide +kernel
theorem dX1_cheapestBut_43 : decode cX1_cheapestBut 43 = .ok (.iload 5, 2) := by decide +kernel
theorem dX1_cheapestBut_45 : decode cX1_cheapestBut 45 = .ok (.ifCond .eq 25, 3) := by decide +kernel
theorem dX1_cheapestBut_48 : decode cX1_cheapestBut 48 = .ok (.aload_n 0, 1) := by decide +kernel
theorem dX1_cheapestBut_49 : decode cX1_cheapestBut 49 = .ok (.getfield 15, 3) := by decide +kernel
theorem dX1_cheapestBut_52 : decode cX1_cheapestBut 52 = .ok (.iload 4, 2) := by decide +kernel
theorem dX1_cheapestBut_54 : decode cX1_cheapestBut 54 = .ok (.iaload, 1) := by decide +kernel
theorem dX1_cheapestBut_55 : decode cX1_cheapestBut 55 = .ok (.iload_n 3, 1) := by decide +kernel
theorem dX1_cheapestBut_56 : decode cX1_cheapestBut 56 = .ok (.if_icmp .ge 14, 3) := by decide +kernel
theorem dX1_cheapestBut_59 : decode cX1_cheapestBut 59 = .ok (.aload_n 0, 1) := by decide +kernel
theorem dX1_cheapestBut_60 : decode cX1_cheapestBut 60 = .ok (.getfield 15, 3) := by decide +kernel
theorem dX1_cheapestBut_63 : decode cX1_cheapestBut 63 = .ok (.iload 4, 2) := by decide +kernel
theorem dX1_cheapestBut_65 : decode cX1_cheapestBut 65 = .ok (.iaload, 1) := by decide +kernel
theorem dX1_cheapestBut_66 : decode cX1_cheapestBut 66 = .ok (.istore_n 3, 1) := by decide +kernel
theorem dX1_cheapestBut_67 : decode cX1_cheapestBut 67 = .ok (.iload 4, 2) := by decide +kernel
theorem dX1_cheapestBut_69 : decode cX1_cheapestBut 69 = .ok (.istore_n 2, 1) := by decide +kernel
theorem dX1_cheapestBut_70 : decode cX1_cheapestBut 70 = .ok (.iinc 4 1, 3) := by decide +kernel
theorem dX1_cheapestBut_73 : decode cX1_cheapestBut 73 = .ok (.goto (-64), 3) := by decide +kernel
theorem dX1_cheapestBut_76 : decode cX1_cheapestBut 76 = .ok (.iload_n 2, 1) := by decide +kernel
theorem dX1_cheapestBut_77 : decode cX1_cheapestBut 77 = .ok (.ireturn, 1) := by decide +kernel
theorem dX2_init_0 : decode cX2_init 0 = .ok (.aload_n 0, 1) := by decide +kernel
theorem dX2_init_1 : decode cX2_init 1 = .ok (.invokespecial 3, 3) := by decide +kernel
theorem dX2_init_4 : decode cX2_init 4 = .ok (.aload_n 0, 1) := by decide +kernel
theorem dX2_init_5 : decode cX2_init 5 = .ok (.iconst 5, 1) := by decide +kernel
theorem dX2_init_6 : decode cX2_init 6 = .ok (.newarray .int, 2) := by decide +kernel
theorem dX2_init_8 : decode cX2_init 8 = .ok (.putfield 9, 3) := by decide +kernel
theorem dX2_init_11 : decode cX2_init 11 = .ok (.aload_n 0, 1) := by decide +kernel
theorem dX2_init_12 : decode cX2_init 12 = .ok (.iconst 5, 1) := by decide +kernel
theorem dX2_init_13 : decode cX2_init 13 = .ok (.newarray .int, 2) := by decide +kernel
theorem dX2_init_15 : decode cX2_init 15 = .ok (.putfield 15, 3) := by decide +kernel
theorem dX2_init_18 : decode cX2_init 18 = .ok (.aload_n 0, 1) := by decide +kernel
theorem dX2_init_19 : decode cX2_init 19 = .ok (.iconst 5, 1) := by decide +kernel
theorem dX2_init_20 : decode cX2_init 20 = .ok (.newarray .int, 2) := by decide +kernel
theorem dX2_init_22 : decode cX2_init 22 = .ok (.putfield 18, 3) := by decide +kernel
theorem dX2_init_25 : decode cX2_init 25 = .ok (.aload_n 0, 1) := by decide +kernel
theorem dX2_init_26 : decode cX2_init 26 = .ok (.iconst 5, 1) := by decide +kernel
theorem dX2_init_27 : decode cX2_init 27 = .ok (.newarray .int, 2) := by decide +kernel
theorem dX2_init_29 : decode cX2_init 29 = .ok (.putfield 21, 3) := by decide +kernel
theorem dX2_init_32 : decode cX2_init 32 = .ok (.aload_n 0, 1) := by decide +kernel
theorem dX2_init_33 : decode cX2_init 33 = .ok (.iconst 5, 1) := by decide +kernel
theorem dX2_init_34 : decode cX2_init 34 = .ok (.newarray .int, 2) := by decide +kernel
theorem dX2_init_36 : decode cX2_init 36 = .ok (.putfield 24, 3) := by decide +kernel
theorem dX2_init_39 : decode cX2_init 39 = .ok (.aload_n 0, 1) := by decide +kernel
theorem dX2_init_40 : decode cX2_init 40 = .ok (.bipush 6, 2) := by decide +kernel
theorem dX2_init_42 : decode cX2_init 42 = .ok (.newarray .int, 2) := by decide +kernel
theorem dX2_init_44 : decode cX2_init 44 = .ok (.putfield 27, 3) := by decide +kernel
theorem dX2_init_47 : decode cX2_init 47 = .ok (.aload_n 0, 1) := by decide +kernel
theorem dX2_init_48 : decode cX2_init 48 = .ok (.invokevirtual 30, 3) := by decide +kernel
theorem dX2_init_51 : decode cX2_init 51 = .ok (.return_, 1) := by decide +kernel
theorem dX2_tellNothing_0 : decode cX2_tellNothing 0 = .ok (.aload_n 0, 1) := by decide +kernel
theorem dX2_tellNothing_1 : decode cX2_tellNothing 1 = .ok (.iconst 0, 1) := by decide +kernel
theorem dX2_tellNothing_2 : decode cX2_tellNothing 2 = .ok (.putfield 33, 3) := by decide +kernel
theorem dX2_tellNothing_5 : decode cX2_tellNothing 5 = .ok (.aload_n 0, 1) := by decide +kernel
theorem dX2_tellNothing_6 : decode cX2_tellNothing 6 = .ok (.iconst 0, 1) := by decide +kernel
theorem dX2_tellNothing_7 : decode cX2_tellNothing 7 = .ok (.putfield 37, 3) := by decide +kernel
theorem dX2_tellNothing_10 : decode cX2_tellNothing 10 = .ok (.aload_n 0, 1) := by decide +kernel
theorem dX2_tellNothing_11 : decode cX2_tellNothing 11 = .ok (.iconst 0, 1) := by decide +kernel
theorem dX2_tellNothing_12 : decode cX2_tellNothing 12 = .ok (.putfield 40, 3) := by decide +kernel
theorem dX2_tellNothing_15 : decode cX2_tellNothing 15 = .ok (.aload_n 0, 1) := by decide +kernel
theorem dX2_tellNothing_16 : decode cX2_tellNothing 16 = .ok (.iconst 0, 1) := by decide +kernel
theorem dX2_tellNothing_17 : decode cX2_tellNothing 17 = .ok (.putfield 43, 3) := by decide +kernel
theorem dX2_tellNothing_20 : decode cX2_tellNothing 20 = .ok (.aload_n 0, 1) := by decide +kernel
theorem dX2_tellNothing_21 : decode cX2_tellNothing 21 = .ok (.iconst 1, 1) := by decide +kernel
theorem dX2_tellNothing_22 : decode cX2_tellNothing 22 = .ok (.putfield 46, 3) := by decide +kernel
theorem dX2_tellNothing_25 : decode cX2_tellNothing 25 = .ok (.aload_n 0, 1) := by decide +kernel
theorem dX2_tellNothing_26 : decode cX2_tellNothing 26 = .ok (.bipush 120, 2) := by decide +kernel
theorem dX2_tellNothing_28 : decode cX2_tellNothing 28 = .ok (.putfield 49, 3) := by decide +kernel
theorem dX2_tellNothing_31 : decode cX2_tellNothing 31 = .ok (.return_, 1) := by decide +kernel
theorem dX2_hasRoom_0 : decode cX2_hasRoom 0 = .ok (.iload_n 1, 1) := by decide +kernel
theorem dX2_hasRoom_1 : decode cX2_hasRoom 1 = .ok (.ifCond .lt 15, 3) := by decide +kernel
theorem dX2_hasRoom_4 : decode cX2_hasRoom 4 = .ok (.iload_n 1, 1) := by decide +kernel
theorem dX2_hasRoom_5 : decode cX2_hasRoom 5 = .ok (.aload_n 0, 1) := by decide +kernel
theorem dX2_hasRoom_6 : decode cX2_hasRoom 6 = .ok (.getfield 33, 3) := by decide +kernel
theorem dX2_hasRoom_9 : decode cX2_hasRoom 9 = .ok (.if_icmp .ge 7, 3) := by decide +kernel
theorem dX2_hasRoom_12 : decode cX2_hasRoom 12 = .ok (.iconst 1, 1) := by decide +kernel
theorem dX2_hasRoom_13 : decode cX2_hasRoom 13 = .ok (.goto 4, 3) := by decide +kernel
theorem dX2_hasRoom_16 : decode cX2_hasRoom 16 = .ok (.iconst 0, 1) := by decide +kernel
theorem dX2_hasRoom_17 : decode cX2_hasRoom 17 = .ok (.ireturn, 1) := by decide +kernel
theorem dX2_hasDoing_0 : decode cX2_hasDoing 0 = .ok (.iload_n 1, 1) := by decide +kernel
theorem dX2_hasDoing_1 : decode cX2_hasDoing 1 = .ok (.ifCond .lt 15, 3) := by decide +kernel
theorem dX2_hasDoing_4 : decode cX2_hasDoing 4 = .ok (.iload_n 1, 1) := by decide +kernel
theorem dX2_hasDoing_5 : decode cX2_hasDoing 5 = .ok (.aload_n 0, 1) := by decide +kernel
theorem dX2_hasDoing_6 : decode cX2_hasDoing 6 = .ok (.getfield 37, 3) := by decide +kernel
theorem dX2_hasDoing_9 : decode cX2_hasDoing 9 = .ok (.if_icmp .ge 7, 3) := by decide +kernel
theorem dX2_hasDoing_12 : decode cX2_hasDoing 12 = .ok (.iconst 1, 1) := by decide +kernel
theorem dX2_hasDoing_13 : decode cX2_hasDoing 13 = .ok (.goto 4, 3) := by decide +kernel
theorem dX2_hasDoing_16 : decode cX2_hasDoing 16 = .ok (.iconst 0, 1) := by decide +kernel
theorem dX2_hasDoing_17 : decode cX2_hasDoing 17 = .ok (.ireturn, 1) := by decide +kernel
theorem dX2_walkBetween_0 : decode cX2_walkBetween 0 = .ok (.aload_n 0, 1) := by decide +kernel
theorem dX2_walkBetween_1 : decode cX2_walkBetween 1 = .ok (.getfield 46, 3) := by decide +kernel
theorem dX2_walkBetween_4 : decode cX2_walkBetween 4 = .ok (.iload_n 2, 1) := by decide +kernel
theorem dX2_walkBetween_5 : decode cX2_walkBetween 5 = .ok (.iload_n 1, 1) := by decide +kernel
theorem dX2_walkBetween_6 : decode cX2_walkBetween 6 = .ok (.bipush (-9), 2) := by decide +kernel
theorem dX2_walkBetween_8 : decode cX2_walkBetween 8 = .ok (.if_icmp .ne 7, 3) := by decide +kernel
theorem dX2_walkBetween_11 : decode cX2_walkBetween 11 = .ok (.iconst 0, 1) := by decide +kernel
theorem dX2_walkBetween_12 : decode cX2_walkBetween 12 = .ok (.goto 4, 3) := by decide +kernel
theorem dX2_walkBetween_15 : decode cX2_walkBetween 15 = .ok (.iload_n 1, 1) := by decide +kernel
theorem dX2_walkBetween_16 : decode cX2_walkBetween 16 = .ok (.isub, 1) := by decide +kernel
theorem dX2_walkBetween_17 : decode cX2_walkBetween 17 = .ok (.invokestatic 52, 3) := by decide +kernel
theorem dX2_walkBetween_20 : decode cX2_walkBetween 20 = .ok (.imul, 1) := by decide +kernel
theorem dX2_walkBetween_21 : decode cX2_walkBetween 21 = .ok (.ireturn, 1) := by decide +kernel
theorem dX2_fullLoss_0 : decode cX2_fullLoss 0 = .ok (.aload_n 0, 1) := by decide +kernel
theorem dX2_fullLoss_1 : decode cX2_fullLoss 1 = .ok (.getfield 21, 3) := by decide +kernel
theorem dX2_fullLoss_4 : decode cX2_fullLoss 4 = .ok (.iload_n 2, 1) := by decide +kernel
theorem dX2_fullLoss_5 : decode cX2_fullLoss 5 = .ok (.iaload, 1) := by decide +kernel
theorem dX2_fullLoss_6 : decode cX2_fullLoss 6 = .ok (.aload_n 0, 1) := by decide +kernel
theorem dX2_fullLoss_7 : decode cX2_fullLoss 7 = .ok (.getfield 15, 3) := by decide +kernel
theorem dX2_fullLoss_10 : decode cX2_fullLoss 10 = .ok (.iload_n 1, 1) := by decide +kernel
theorem dX2_fullLoss_11 : decode cX2_fullLoss 11 = .ok (.iaload, 1) := by decide +kernel
theorem dX2_fullLoss_12 : decode cX2_fullLoss 12 = .ok (.imul, 1) := by decide +kernel
theorem dX2_fullLoss_13 : decode cX2_fullLoss 13 = .ok (.ireturn, 1) := by decide +kernel
theorem dX3_init_0 : decode cX3_init 0 = .ok (.aload_n 0, 1) := by decide +kernel
theorem dX3_init_1 : decode cX3_init 1 = .ok (.invokespecial 3, 3) := by decide +kernel
theorem dX3_init_4 : decode cX3_init 4 = .ok (.aload_n 0, 1) := by decide +kernel
theorem dX3_init_5 : decode cX3_init 5 = .ok (.iconst 5, 1) := by decide +kernel
theorem dX3_init_6 : decode cX3_init 6 = .ok (.newarray .int, 2) := by decide +kernel
theorem dX3_init_8 : decode cX3_init 8 = .ok (.putfield 9, 3) := by decide +kernel
theorem dX3_init_11 : decode cX3_init 11 = .ok (.aload_n 0, 1) := by decide +kernel
theorem dX3_init_12 : decode cX3_init 12 = .ok (.bipush 64, 2) := by decide +kernel
theorem dX3_init_14 : decode cX3_init 14 = .ok (.newarray .int, 2) := by decide +kernel
theorem dX3_init_16 : decode cX3_init 16 = .ok (.putfield 15, 3) := by decide +kernel
theorem dX3_init_19 : decode cX3_init 19 = .ok (.return_, 1) := by decide +kernel
theorem dX3_leftOf_0 : decode cX3_leftOf 0 = .ok (.iconst 0, 1) := by decide +kernel
theorem dX3_leftOf_1 : decode cX3_leftOf 1 = .ok (.istore_n 2, 1) := by decide +kernel
theorem dX3_leftOf_2 : decode cX3_leftOf 2 = .ok (.iconst 0, 1) := by decide +kernel
theorem dX3_leftOf_3 : decode cX3_leftOf 3 = .ok (.istore_n 3, 1) := by decide +kernel
theorem dX3_leftOf_4 : decode cX3_leftOf 4 = .ok (.iload_n 3, 1) := by decide +kernel
theorem dX3_leftOf_5 : decode cX3_leftOf 5 = .ok (.aload_n 0, 1) := by decide +kernel
theorem dX3_leftOf_6 : decode cX3_leftOf 6 = .ok (.getfield 18, 3) := by decide +kernel
theorem dX3_leftOf_9 : decode cX3_leftOf 9 = .ok (.if_icmp .ge 40, 3) := by decide +kernel
theorem dX3_leftOf_12 : decode cX3_leftOf 12 = .ok (.aload_n 0, 1) := by decide +kernel
theorem dX3_leftOf_13 : decode cX3_leftOf 13 = .ok (.getfield 24, 3) := by decide +kernel
theorem dX3_leftOf_16 : decode cX3_leftOf 16 = .ok (.iload_n 3, 1) := by decide +kernel
theorem dX3_leftOf_17 : decode cX3_leftOf 17 = .ok (.iaload, 1) := by decide +kernel
theorem dX3_leftOf_18 : decode cX3_leftOf 18 = .ok (.aload_n 0, 1) := by decide +kernel
theorem dX3_leftOf_19 : decode cX3_leftOf 19 = .ok (.getfield 24, 3) := by decide +kernel
theorem dX3_leftOf_22 : decode cX3_leftOf 22 = .ok (.aload_n 0, 1) := by decide +kernel
theorem dX3_leftOf_23 : decode cX3_leftOf 23 = .ok (.getfield 27, 3) := by decide +kernel
theorem dX3_leftOf_26 : decode cX3_leftOf 26 = .ok (.iaload, 1) := by decide +kernel
theorem dX3_leftOf_27 : decode cX3_leftOf 27 = .ok (.ixor, 1) := by decide +kernel
theorem dX3_leftOf_28 : decode cX3_leftOf 28 = .ok (.istore 4, 2) := by decide +kernel
theorem dX3_leftOf_30 : decode cX3_leftOf 30 = .ok (.iload 4, 2) := by decide +kernel
theorem dX3_leftOf_32 : decode cX3_leftOf 32 = .ok (.iload_n 1, 1) := by decide +kernel
theorem dX3_leftOf_33 : decode cX3_leftOf 33 = .ok (.iand, 1) := by decide +kernel
theorem dX3_leftOf_34 : decode cX3_leftOf 34 = .ok (.ifCond .ne 9, 3) := by decide +kernel
theorem dX3_leftOf_37 : decode cX3_leftOf 37 = .ok (.iload_n 2, 1) := by decide +kernel
theorem dX3_leftOf_38 : decode cX3_leftOf 38 = .ok (.iconst 1, 1) := by decide +kernel
theorem dX3_leftOf_39 : decode cX3_leftOf 39 = .ok (.iload_n 3, 1) := by decide +kernel
theorem dX3_leftOf_40 : decode cX3_leftOf 40 = .ok (.ishl, 1) := by decide +kernel
theorem dX3_leftOf_41 : decode cX3_leftOf 41 = .ok (.ior, 1) := by decide +kernel
theorem dX3_leftOf_42 : decode cX3_leftOf 42 = .ok (.istore_n 2, 1) := by decide +kernel
theorem dX3_leftOf_43 : decode cX3_leftOf 43 = .ok (.iinc 3 1, 3) := by decide +kernel
theorem dX3_leftOf_46 : decode cX3_leftOf 46 = .ok (.goto (-42), 3) := by decide +kernel
theorem dX3_leftOf_49 : decode cX3_leftOf 49 = .ok (.iload_n 2, 1) := by decide +kernel
theorem dX3_leftOf_50 : decode cX3_leftOf 50 = .ok (.ireturn, 1) := by decide +kernel
theorem dX3_withTrait_0 : decode cX3_withTrait 0 = .ok (.iconst 0, 1) := by decide +kernel
theorem dX3_withTrait_1 : decode cX3_withTrait 1 = .ok (.istore_n 2, 1) := by decide +kernel
theorem dX3_withTrait_2 : decode cX3_withTrait 2 = .ok (.iconst 0, 1) := by decide +kernel
theorem dX3_withTrait_3 : decode cX3_withTrait 3 = .ok (.istore_n 3, 1) := by decide +kernel
theorem dX3_withTrait_4 : decode cX3_withTrait 4 = .ok (.iload_n 3, 1) := by decide +kernel
theorem dX3_withTrait_5 : decode cX3_withTrait 5 = .ok (.aload_n 0, 1) := by decide +kernel
theorem dX3_withTrait_6 : decode cX3_withTrait 6 = .ok (.getfield 18, 3) := by decide +kernel
theorem dX3_withTrait_9 : decode cX3_withTrait 9 = .ok (.if_icmp .ge 24, 3) := by decide +kernel
theorem dX3_withTrait_12 : decode cX3_withTrait 12 = .ok (.iload_n 2, 1) := by decide +kernel
theorem dX3_withTrait_13 : decode cX3_withTrait 13 = .ok (.aload_n 0, 1) := by decide +kernel
theorem dX3_withTrait_14 : decode cX3_withTrait 14 = .ok (.getfield 24, 3) := by decide +kernel
theorem dX3_withTrait_17 : decode cX3_withTrait 17 = .ok (.iload_n 3, 1) := by decide +kernel
theorem dX3_withTrait_18 : decode cX3_withTrait 18 = .ok (.iaload, 1) := by decide +kernel
theorem dX3_withTrait_19 : decode cX3_withTrait 19 = .ok (.iload_n 1, 1) := by decide +kernel
theorem dX3_withTrait_20 : decode cX3_withTrait 20 = .ok (.ishr, 1) := by decide +kernel
theorem dX3_withTrait_21 : decode cX3_withTrait 21 = .ok (.iconst 1, 1) := by decide +kernel
theorem dX3_withTrait_22 : decode cX3_withTrait 22 = .ok (.iand, 1) := by decide +kernel
theorem dX3_withTrait_23 : decode cX3_withTrait 23 = .ok (.iload_n 3, 1) := by decide +kernel
theorem dX3_withTrait_24 : decode cX3_withTrait 24 = .ok (.ishl, 1) := by decide +kernel
theorem dX3_withTrait_25 : decode cX3_withTrait 25 = .ok (.ior, 1) := by decide +kernel
theorem dX3_withTrait_26 : decode cX3_withTrait 26 = .ok (.istore_n 2, 1) := by decide +kernel
theorem dX3_withTrait_27 : decode cX3_withTrait 27 = .ok (.iinc 3 1, 3) := by decide +kernel
theorem dX3_withTrait_30 : decode cX3_withTrait 30 = .ok (.goto (-26), 3) := by decide +kernel
theorem dX3_withTrait_33 : decode cX3_withTrait 33 = .ok (.iload_n 2, 1) := by decide +kernel
theorem dX3_withTrait_34 : decode cX3_withTrait 34 = .ok (.ireturn, 1) := by decide +kernel
theorem dX3_bestTrait_0 : decode cX3_bestTrait 0 = .ok (.aload_n 0, 1) := by decide +kernel
theorem dX3_bestTrait_1 : decode cX3_bestTrait 1 = .ok (.iload_n 1, 1) := by decide +kernel
theorem dX3_bestTrait_2 : decode cX3_bestTrait 2 = .ok (.invokestatic 30, 3) := by decide +kernel
theorem dX3_bestTrait_5 : decode cX3_bestTrait 5 = .ok (.istore_n 2, 1) := by decide +kernel
theorem dX3_bestTrait_6 : decode cX3_bestTrait 6 = .ok (.iload_n 2, 1) := by decide +kernel
theorem dX3_bestTrait_7 : decode cX3_bestTrait 7 = .ok (.invokestatic 34, 3) := by decide +kernel
theorem dX3_bestTrait_10 : decode cX3_bestTrait 10 = .ok (.istore_n 3, 1) := by decide +kernel
theorem dX3_bestTrait_11 : decode cX3_bestTrait 11 = .ok (.iload_n 3, 1) := by decide +kernel
theorem dX3_bestTrait_12 : decode cX3_bestTrait 12 = .ok (.iconst 1, 1) := by decide +kernel
theorem dX3_bestTrait_13 : decode cX3_bestTrait 13 = .ok (.if_icmp .gt 6, 3) := by decide +kernel
theorem dX3_bestTrait_16 : decode cX3_bestTrait 16 = .ok (.bipush (-9), 2) := by decide +kernel
theorem dX3_bestTrait_18 : decode cX3_bestTrait 18 = .ok (.ireturn, 1) := by decide +kernel
theorem dX3_bestTrait_19 : decode cX3_bestTrait 19 = .ok (.bipush (-9), 2) := by decide +kernel
theorem dX3_bestTrait_21 : decode cX3_bestTrait 21 = .ok (.istore 4, 2) := by decide +kernel
theorem dX3_bestTrait_23 : decode cX3_bestTrait 23 = .ok (.iload_n 3, 1) := by decide +kernel
theorem dX3_bestTrait_24 : decode cX3_bestTrait 24 = .ok (.iconst 1, 1) := by decide +kernel
theorem dX3_bestTrait_25 : decode cX3_bestTrait 25 = .ok (.iadd, 1) := by decide +kernel
theorem dX3_bestTrait_26 : decode cX3_bestTrait 26 = .ok (.istore 5, 2) := by decide +kernel
theorem dX3_bestTrait_28 : decode cX3_bestTrait 28 = .ok (.iconst 0, 1) := by decide +kernel
theorem dX3_bestTrait_29 : decode cX3_bestTrait 29 = .ok (.istore 6, 2) := by decide +kernel
theorem dX3_bestTrait_31 : decode cX3_bestTrait 31 = .ok (.iload 6, 2) := by decide +kernel
theorem dX3_bestTrait_33 : decode cX3_bestTrait 33 = .ok (.iconst 5, 1) := by decide +kernel
theorem dX3_bestTrait_34 : decode cX3_bestTrait 34 = .ok (.if_icmp .ge 57, 3) := by decide +kernel
theorem dX3_bestTrait_37 : decode cX3_bestTrait 37 = .ok (.iload_n 2, 1) := by decide +kernel
theorem dX3_bestTrait_38 : decode cX3_bestTrait 38 = .ok (.aload_n 0, 1) := by decide +kernel
theorem dX3_bestTrait_39 : decode cX3_bestTrait 39 = .ok (.iload 6, 2) := by decide +kernel
theorem dX3_bestTrait_41 : decode cX3_bestTrait 41 = .ok (.invokestatic 40, 3) := by decide +kernel
theorem dX3_bestTrait_44 : decode cX3_bestTrait 44 = .ok (.iand, 1) := by decide +kernel
theorem dX3_bestTrait_45 : decode cX3_bestTrait 45 = .ok (.invokestatic 34, 3) := by decide +kernel
theorem dX3_bestTrait_48 : decode cX3_bestTrait 48 = .ok (.istore 7, 2) := by decide +kernel
theorem dX3_bestTrait_50 : decode cX3_bestTrait 50 = .ok (.iload 7, 2) := by decide +kernel
theorem dX3_bestTrait_52 : decode cX3_bestTrait 52 = .ok (.iload_n 3, 1) := by decide +kernel
theorem dX3_bestTrait_53 : decode cX3_bestTrait 53 = .ok (.iload 7, 2) := by decide +kernel
theorem dX3_bestTrait_55 : decode cX3_bestTrait 55 = .ok (.isub, 1) := by decide +kernel
theorem dX3_bestTrait_56 : decode cX3_bestTrait 56 = .ok (.invokestatic 43, 3) := by decide +kernel
theorem dX3_bestTrait_59 : decode cX3_bestTrait 59 = .ok (.istore 8, 2) := by decide +kernel
theorem dX3_bestTrait_61 : decode cX3_bestTrait 61 = .ok (.iload_n 1, 1) := by decide +kernel
theorem dX3_bestTrait_62 : decode cX3_bestTrait 62 = .ok (.iload 6, 2) := by decide +kernel
theorem dX3_bestTrait_64 : decode cX3_bestTrait 64 = .ok (.ishr, 1) := by decide +kernel
theorem dX3_bestTrait_65 : decode cX3_bestTrait 65 = .ok (.iconst 1, 1) := by decide +kernel
theorem dX3_bestTrait_66 : decode cX3_bestTrait 66 = .ok (.iand, 1) := by decide +kernel
theorem dX3_bestTrait_67 : decode cX3_bestTrait 67 = .ok (.ifCond .ne 18, 3) := by decide +kernel
theorem dX3_bestTrait_70 : decode cX3_bestTrait 70 = .ok (.iload 8, 2) := by decide +kernel
theorem dX3_bestTrait_72 : decode cX3_bestTrait 72 = .ok (.iload 5, 2) := by decide +kernel
theorem dX3_bestTrait_74 : decode cX3_bestTrait 74 = .ok (.if_icmp .ge 11, 3) := by decide +kernel
theorem dX3_bestTrait_77 : decode cX3_bestTrait 77 = .ok (.iload 8, 2) := by decide +kernel
theorem dX3_bestTrait_79 : decode cX3_bestTrait 79 = .ok (.istore 5, 2) := by decide +kernel
theorem dX3_bestTrait_81 : decode cX3_bestTrait 81 = .ok (.iload 6, 2) := by decide +kernel
theorem dX3_bestTrait_83 : decode cX3_bestTrait 83 = .ok (.istore 4, 2) := by decide +kernel
theorem dX3_bestTrait_85 : decode cX3_bestTrait 85 = .ok (.iinc 6 1, 3) := by decide +kernel
theorem dX3_bestTrait_88 : decode cX3_bestTrait 88 = .ok (.goto (-57), 3) := by decide +kernel
theorem dX3_bestTrait_91 : decode cX3_bestTrait 91 = .ok (.iload 4, 2) := by decide +kernel
theorem dX3_bestTrait_93 : decode cX3_bestTrait 93 = .ok (.ireturn, 1) := by decide +kernel
theorem dX3_mostNeeded_0 : decode cX3_mostNeeded 0 = .ok (.iconst 0, 1) := by decide +kernel
theorem dX3_mostNeeded_1 : decode cX3_mostNeeded 1 = .ok (.istore_n 3, 1) := by decide +kernel
theorem dX3_mostNeeded_2 : decode cX3_mostNeeded 2 = .ok (.iload_n 3, 1) := by decide +kernel
theorem dX3_mostNeeded_3 : decode cX3_mostNeeded 3 = .ok (.iconst 5, 1) := by decide +kernel
theorem dX3_mostNeeded_4 : decode cX3_mostNeeded 4 = .ok (.if_icmp .ge 20, 3) := by decide +kernel
theorem dX3_mostNeeded_7 : decode cX3_mostNeeded 7 = .ok (.aload_n 0, 1) := by decide +kernel
theorem dX3_mostNeeded_8 : decode cX3_mostNeeded 8 = .ok (.getfield 9, 3) := by decide +kernel
theorem dX3_mostNeeded_11 : decode cX3_mostNeeded 11 = .ok (.iload_n 3, 1) := by decide +kernel
theorem dX3_mostNeeded_12 : decode cX3_mostNeeded 12 = .ok (.aload_n 1, 1) := by decide +kernel
theorem dX3_mostNeeded_13 : decode cX3_mostNeeded 13 = .ok (.iload_n 3, 1) := by decide +kernel
theorem dX3_mostNeeded_14 : decode cX3_mostNeeded 14 = .ok (.invokestatic 40, 3) := by decide +kernel
theorem dX3_mostNeeded_17 : decode cX3_mostNeeded 17 = .ok (.iastore, 1) := by decide +kernel
theorem dX3_mostNeeded_18 : decode cX3_mostNeeded 18 = .ok (.iinc 3 1, 3) := by decide +kernel
theorem dX3_mostNeeded_21 : decode cX3_mostNeeded 21 = .ok (.goto (-19), 3) := by decide +kernel
theorem dX3_mostNeeded_24 : decode cX3_mostNeeded 24 = .ok (.iconst 0, 1) := by decide +kernel
theorem dX3_mostNeeded_25 : decode cX3_mostNeeded 25 = .ok (.istore_n 3, 1) := by decide +kernel
theorem dX3_mostNeeded_26 : decode cX3_mostNeeded 26 = .ok (.iload_n 3, 1) := by decide +kernel
theorem dX3_mostNeeded_27 : decode cX3_mostNeeded 27 = .ok (.iload_n 2, 1) := by decide +kernel
theorem dX3_mostNeeded_28 : decode cX3_mostNeeded 28 = .ok (.if_icmp .gt 20, 3) := by decide +kernel
theorem dX3_mostNeeded_31 : decode cX3_mostNeeded 31 = .ok (.aload_n 0, 1) := by decide +kernel
theorem dX3_mostNeeded_32 : decode cX3_mostNeeded 32 = .ok (.getfield 15, 3) := by decide +kernel
theorem dX3_mostNeeded_35 : decode cX3_mostNeeded 35 = .ok (.iload_n 3, 1) := by decide +kernel
theorem dX3_mostNeeded_36 : decode cX3_mostNeeded 36 = .ok (.aload_n 0, 1) := by decide +kernel
theorem dX3_mostNeeded_37 : decode cX3_mostNeeded 37 = .ok (.iload_n 3, 1) := by decide +kernel
theorem dX3_mostNeeded_38 : decode cX3_mostNeeded 38 = .ok (.invokevirtual 49, 3) := by decide +kernel
theorem dX3_mostNeeded_41 : decode cX3_mostNeeded 41 = .ok (.iastore, 1) := by decide +kernel
theorem dX3_mostNeeded_42 : decode cX3_mostNeeded 42 = .ok (.iinc 3 1, 3) := by decide +kernel
theorem dX3_mostNeeded_45 : decode cX3_mostNeeded 45 = .ok (.goto (-19), 3) := by decide +kernel
theorem dX3_mostNeeded_48 : decode cX3_mostNeeded 48 = .ok (.aload_n 0, 1) := by decide +kernel
theorem dX3_mostNeeded_49 : decode cX3_mostNeeded 49 = .ok (.getfield 15, 3) := by decide +kernel
theorem dX3_mostNeeded_52 : decode cX3_mostNeeded 52 = .ok (.iload_n 2, 1) := by decide +kernel
theorem dX3_mostNeeded_53 : decode cX3_mostNeeded 53 = .ok (.iaload, 1) := by decide +kernel
theorem dX3_mostNeeded_54 : decode cX3_mostNeeded 54 = .ok (.ireturn, 1) := by decide +kernel
theorem dX3_neededOf_0 : decode cX3_neededOf 0 = .ok (.bipush 6, 2) := by decide +kernel
theorem dX3_neededOf_2 : decode cX3_neededOf 2 = .ok (.istore_n 2, 1) := by decide +kernel
theorem dX3_neededOf_3 : decode cX3_neededOf 3 = .ok (.iconst 0, 1) := by decide +kernel
theorem dX3_neededOf_4 : decode cX3_neededOf 4 = .ok (.istore_n 3, 1) := by decide +kernel
theorem dX3_neededOf_5 : decode cX3_neededOf 5 = .ok (.iload_n 3, 1) := by decide +kernel
theorem dX3_neededOf_6 : decode cX3_neededOf 6 = .ok (.iconst 5, 1) := by decide +kernel
theorem dX3_neededOf_7 : decode cX3_neededOf 7 = .ok (.if_icmp .ge 65, 3) := by decide +kernel
theorem dX3_neededOf_10 : decode cX3_neededOf 10 = .ok (.iload_n 1, 1) := by decide +kernel
theorem dX3_neededOf_11 : decode cX3_neededOf 11 = .ok (.aload_n 0, 1) := by decide +kernel
theorem dX3_neededOf_12 : decode cX3_neededOf 12 = .ok (.getfield 9, 3) := by decide +kernel
theorem dX3_neededOf_15 : decode cX3_neededOf 15 = .ok (.iload_n 3, 1) := by decide +kernel
theorem dX3_neededOf_16 : decode cX3_neededOf 16 = .ok (.iaload, 1) := by decide +kernel
theorem dX3_neededOf_17 : decode cX3_neededOf 17 = .ok (.iand, 1) := by decide +kernel
theorem dX3_neededOf_18 : decode cX3_neededOf 18 = .ok (.istore 4, 2) := by decide +kernel
theorem dX3_neededOf_20 : decode cX3_neededOf 20 = .ok (.iload_n 1, 1) := by decide +kernel
theorem dX3_neededOf_21 : decode cX3_neededOf 21 = .ok (.aload_n 0, 1) := by decide +kernel
theorem dX3_neededOf_22 : decode cX3_neededOf 22 = .ok (.getfield 9, 3) := by decide +kernel
theorem dX3_neededOf_25 : decode cX3_neededOf 25 = .ok (.iload_n 3, 1) := by decide +kernel
theorem dX3_neededOf_26 : decode cX3_neededOf 26 = .ok (.iaload, 1) := by decide +kernel
theorem dX3_neededOf_27 : decode cX3_neededOf 27 = .ok (.iconst (-1), 1) := by decide +kernel
theorem dX3_neededOf_28 : decode cX3_neededOf 28 = .ok (.ixor, 1) := by decide +kernel
theorem dX3_neededOf_29 : decode cX3_neededOf 29 = .ok (.iand, 1) := by decide +kernel
theorem dX3_neededOf_30 : decode cX3_neededOf 30 = .ok (.istore 5, 2) := by decide +kernel
theorem dX3_neededOf_32 : decode cX3_neededOf 32 = .ok (.iload 4, 2) := by decide +kernel
theorem dX3_neededOf_34 : decode cX3_neededOf 34 = .ok (.ifCond .eq 32, 3) := by decide +kernel
theorem dX3_neededOf_37 : decode cX3_neededOf 37 = .ok (.iload 5, 2) := by decide +kernel
theorem dX3_neededOf_39 : decode cX3_neededOf 39 = .ok (.ifCond .eq 27, 3) := by decide +kernel
theorem dX3_neededOf_42 : decode cX3_neededOf 42 = .ok (.iload_n 2, 1) := by decide +kernel
theorem dX3_neededOf_43 : decode cX3_neededOf 43 = .ok (.iconst 1, 1) := by decide +kernel
theorem dX3_neededOf_44 : decode cX3_neededOf 44 = .ok (.aload_n 0, 1) := by decide +kernel
theorem dX3_neededOf_45 : decode cX3_neededOf 45 = .ok (.getfield 15, 3) := by decide +kernel
theorem dX3_neededOf_48 : decode cX3_neededOf 48 = .ok (.iload 4, 2) := by decide +kernel
theorem dX3_neededOf_50 : decode cX3_neededOf 50 = .ok (.iaload, 1) := by decide +kernel
theorem dX3_neededOf_51 : decode cX3_neededOf 51 = .ok (.aload_n 0, 1) := by decide +kernel
theorem dX3_neededOf_52 : decode cX3_neededOf 52 = .ok (.getfield 15, 3) := by decide +kernel
theorem dX3_neededOf_55 : decode cX3_neededOf 55 = .ok (.iload 5, 2) := by decide +kernel
theorem dX3_neededOf_57 : decode cX3_neededOf 57 = .ok (.iaload, 1) := by decide +kernel
theorem dX3_neededOf_58 : decode cX3_neededOf 58 = .ok (.invokestatic 43, 3) := by decide +kernel
theorem dX3_neededOf_61 : decode cX3_neededOf 61 = .ok (.iadd, 1) := by decide +kernel
theorem dX3_neededOf_62 : decode cX3_neededOf 62 = .ok (.invokestatic 52, 3) := by decide +kernel
theorem dX3_neededOf_65 : decode cX3_neededOf 65 = .ok (.istore_n 2, 1) := by decide +kernel
theorem dX3_neededOf_66 : decode cX3_neededOf 66 = .ok (.iinc 3 1, 3) := by decide +kernel
theorem dX3_neededOf_69 : decode cX3_neededOf 69 = .ok (.goto (-64), 3) := by decide +kernel
theorem dX3_neededOf_72 : decode cX3_neededOf 72 = .ok (.iload_n 2, 1) := by decide +kernel
theorem dX3_neededOf_73 : decode cX3_neededOf 73 = .ok (.iconst 5, 1) := by decide +kernel
theorem dX3_neededOf_74 : decode cX3_neededOf 74 = .ok (.if_icmp .le 7, 3) := by decide +kernel
theorem dX3_neededOf_77 : decode cX3_neededOf 77 = .ok (.iconst 0, 1) := by decide +kernel
theorem dX3_neededOf_78 : decode cX3_neededOf 78 = .ok (.goto 4, 3) := by decide +kernel
theorem dX3_neededOf_81 : decode cX3_neededOf 81 = .ok (.iload_n 2, 1) := by decide +kernel
theorem dX3_neededOf_82 : decode cX3_neededOf 82 = .ok (.ireturn, 1) := by decide +kernel
theorem dX4_init_0 : decode cX4_init 0 = .ok (.aload_n 0, 1) := by decide +kernel
theorem dX4_init_1 : decode cX4_init 1 = .ok (.invokespecial 3, 3) := by decide +kernel
theorem dX4_init_4 : decode cX4_init 4 = .ok (.aload_n 0, 1) := by decide +kernel
theorem dX4_init_5 : decode cX4_init 5 = .ok (.iconst 5, 1) := by decide +kernel
theorem dX4_init_6 : decode cX4_init 6 = .ok (.newarray .int, 2) := by decide +kernel
theorem dX4_init_8 : decode cX4_init 8 = .ok (.putfield 9, 3) := by decide +kernel
theorem dX4_init_11 : decode cX4_init 11 = .ok (.aload_n 0, 1) := by decide +kernel
theorem dX4_init_12 : decode cX4_init 12 = .ok (.iconst 5, 1) := by decide +kernel
theorem dX4_init_13 : decode cX4_init 13 = .ok (.newarray .int, 2) := by decide +kernel
theorem dX4_init_15 : decode cX4_init 15 = .ok (.putfield 15, 3) := by decide +kernel
theorem dX4_init_18 : decode cX4_init 18 = .ok (.aload_n 0, 1) := by decide +kernel
theorem dX4_init_19 : decode cX4_init 19 = .ok (.iconst 0, 1) := by decide +kernel
theorem dX4_init_20 : decode cX4_init 20 = .ok (.putfield 18, 3) := by decide +kernel
theorem dX4_init_23 : decode cX4_init 23 = .ok (.return_, 1) := by decide +kernel
theorem dX4_add_0 : decode cX4_add 0 = .ok (.aload_n 0, 1) := by decide +kernel
theorem dX4_add_1 : decode cX4_add 1 = .ok (.getfield 18, 3) := by decide +kernel
theorem dX4_add_4 : decode cX4_add 4 = .ok (.iconst 5, 1) := by decide +kernel
theorem dX4_add_5 : decode cX4_add 5 = .ok (.if_icmp .ge 33, 3) := by decide +kernel
theorem dX4_add_8 : decode cX4_add 8 = .ok (.aload_n 0, 1) := by decide +kernel
theorem dX4_add_9 : decode cX4_add 9 = .ok (.getfield 9, 3) := by decide +kernel
theorem dX4_add_12 : decode cX4_add 12 = .ok (.aload_n 0, 1) := by decide +kernel
theorem dX4_add_13 : decode cX4_add 13 = .ok (.getfield 18, 3) := by decide +kernel
theorem dX4_add_16 : decode cX4_add 16 = .ok (.iload_n 1, 1) := by decide +kernel
theorem dX4_add_17 : decode cX4_add 17 = .ok (.iastore, 1) := by decide +kernel
theorem dX4_add_18 : decode cX4_add 18 = .ok (.aload_n 0, 1) := by decide +kernel
theorem dX4_add_19 : decode cX4_add 19 = .ok (.getfield 15, 3) := by decide +kernel
theorem dX4_add_22 : decode cX4_add 22 = .ok (.aload_n 0, 1) := by decide +kernel
theorem dX4_add_23 : decode cX4_add 23 = .ok (.getfield 18, 3) := by decide +kernel
theorem dX4_add_26 : decode cX4_add 26 = .ok (.iload_n 2, 1) := by decide +kernel
theorem dX4_add_27 : decode cX4_add 27 = .ok (.iastore, 1) := by decide +kernel
theorem dX4_add_28 : decode cX4_add 28 = .ok (.aload_n 0, 1) := by decide +kernel
theorem dX4_add_29 : decode cX4_add 29 = .ok (.dup, 1) := by decide +kernel
theorem dX4_add_30 : decode cX4_add 30 = .ok (.getfield 18, 3) := by decide +kernel
theorem dX4_add_33 : decode cX4_add 33 = .ok (.iconst 1, 1) := by decide +kernel
theorem dX4_add_34 : decode cX4_add 34 = .ok (.iadd, 1) := by decide +kernel
theorem dX4_add_35 : decode cX4_add 35 = .ok (.putfield 18, 3) := by decide +kernel
theorem dX4_add_38 : decode cX4_add 38 = .ok (.return_, 1) := by decide +kernel
theorem dX4_agreesWith_0 : decode cX4_agreesWith 0 = .ok (.iconst 0, 1) := by decide +kernel
theorem dX4_agreesWith_1 : decode cX4_agreesWith 1 = .ok (.istore_n 3, 1) := by decide +kernel
theorem dX4_agreesWith_2 : decode cX4_agreesWith 2 = .ok (.iload_n 3, 1) := by decide +kernel
theorem dX4_agreesWith_3 : decode cX4_agreesWith 3 = .ok (.aload_n 0, 1) := by decide +kernel
theorem dX4_agreesWith_4 : decode cX4_agreesWith 4 = .ok (.getfield 18, 3) := by decide +kernel
theorem dX4_agreesWith_7 : decode cX4_agreesWith 7 = .ok (.if_icmp .ge 33, 3) := by decide +kernel
theorem dX4_agreesWith_10 : decode cX4_agreesWith 10 = .ok (.aload_n 1, 1) := by decide +kernel
theorem dX4_agreesWith_11 : decode cX4_agreesWith 11 = .ok (.getfield 22, 3) := by decide +kernel
theorem dX4_agreesWith_14 : decode cX4_agreesWith 14 = .ok (.aload_n 0, 1) := by decide +kernel
theorem dX4_agreesWith_15 : decode cX4_agreesWith 15 = .ok (.getfield 9, 3) := by decide +kernel
theorem dX4_agreesWith_18 : decode cX4_agreesWith 18 = .ok (.iload_n 3, 1) := by decide +kernel
theorem dX4_agreesWith_19 : decode cX4_agreesWith 19 = .ok (.iaload, 1) := by decide +kernel
theorem dX4_agreesWith_20 : decode cX4_agreesWith 20 = .ok (.iaload, 1) := by decide +kernel
theorem dX4_agreesWith_21 : decode cX4_agreesWith 21 = .ok (.iload_n 2, 1) := by decide +kernel
theorem dX4_agreesWith_22 : decode cX4_agreesWith 22 = .ok (.imul, 1) := by decide +kernel
theorem dX4_agreesWith_23 : decode cX4_agreesWith 23 = .ok (.aload_n 0, 1) := by decide +kernel
theorem dX4_agreesWith_24 : decode cX4_agreesWith 24 = .ok (.getfield 15, 3) := by decide +kernel
theorem dX4_agreesWith_27 : decode cX4_agreesWith 27 = .ok (.iload_n 3, 1) := by decide +kernel
theorem dX4_agreesWith_28 : decode cX4_agreesWith 28 = .ok (.iaload, 1) := by decide +kernel
theorem dX4_agreesWith_29 : decode cX4_agreesWith 29 = .ok (.if_icmp .eq 5, 3) := by decide +kernel
theorem dX4_agreesWith_32 : decode cX4_agreesWith 32 = .ok (.iconst 0, 1) := by decide +kernel
theorem dX4_agreesWith_33 : decode cX4_agreesWith 33 = .ok (.ireturn, 1) := by decide +kernel
theorem dX4_agreesWith_34 : decode cX4_agreesWith 34 = .ok (.iinc 3 1, 3) := by decide +kernel
theorem dX4_agreesWith_37 : decode cX4_agreesWith 37 = .ok (.goto (-35), 3) := by decide +kernel
theorem dX4_agreesWith_40 : decode cX4_agreesWith 40 = .ok (.iconst 1, 1) := by decide +kernel
theorem dX4_agreesWith_41 : decode cX4_agreesWith 41 = .ok (.ireturn, 1) := by decide +kernel
theorem dX5_init_0 : decode cX5_init 0 = .ok (.aload_n 0, 1) := by decide +kernel
theorem dX5_init_1 : decode cX5_init 1 = .ok (.invokespecial 3, 3) := by decide +kernel
theorem dX5_init_4 : decode cX5_init 4 = .ok (.aload_n 0, 1) := by decide +kernel
theorem dX5_init_5 : decode cX5_init 5 = .ok (.bipush 10, 2) := by decide +kernel
theorem dX5_init_7 : decode cX5_init 7 = .ok (.anewarray 9, 3) := by decide +kernel
theorem dX5_init_10 : decode cX5_init 10 = .ok (.putfield 11, 3) := by decide +kernel
theorem dX5_init_13 : decode cX5_init 13 = .ok (.iconst 0, 1) := by decide +kernel
theorem dX5_init_14 : decode cX5_init 14 = .ok (.istore_n 1, 1) := by decide +kernel
theorem dX5_init_15 : decode cX5_init 15 = .ok (.iload_n 1, 1) := by decide +kernel
theorem dX5_init_16 : decode cX5_init 16 = .ok (.bipush 10, 2) := by decide +kernel
theorem dX5_init_18 : decode cX5_init 18 = .ok (.if_icmp .ge 22, 3) := by decide +kernel
theorem dX5_init_21 : decode cX5_init 21 = .ok (.aload_n 0, 1) := by decide +kernel
theorem dX5_init_22 : decode cX5_init 22 = .ok (.getfield 11, 3) := by decide +kernel
theorem dX5_init_25 : decode cX5_init 25 = .ok (.iload_n 1, 1) := by decide +kernel
theorem dX5_init_26 : decode cX5_init 26 = .ok (.new 9, 3) := by decide +kernel
theorem dX5_init_29 : decode cX5_init 29 = .ok (.dup, 1) := by decide +kernel
theorem dX5_init_30 : decode cX5_init 30 = .ok (.invokespecial 17, 3) := by decide +kernel
theorem dX5_init_33 : decode cX5_init 33 = .ok (.aastore, 1) := by decide +kernel
theorem dX5_init_34 : decode cX5_init 34 = .ok (.iinc 1 1, 3) := by decide +kernel
theorem dX5_init_37 : decode cX5_init 37 = .ok (.goto (-22), 3) := by decide +kernel
theorem dX5_init_40 : decode cX5_init 40 = .ok (.aload_n 0, 1) := by decide +kernel
theorem dX5_init_41 : decode cX5_init 41 = .ok (.iconst 0, 1) := by decide +kernel
theorem dX5_init_42 : decode cX5_init 42 = .ok (.putfield 18, 3) := by decide +kernel
theorem dX5_init_45 : decode cX5_init 45 = .ok (.aload_n 0, 1) := by decide +kernel
theorem dX5_init_46 : decode cX5_init 46 = .ok (.iconst 0, 1) := by decide +kernel
theorem dX5_init_47 : decode cX5_init 47 = .ok (.putfield 22, 3) := by decide +kernel
theorem dX5_init_50 : decode cX5_init 50 = .ok (.return_, 1) := by decide +kernel
theorem dX5_lose_0 : decode cX5_lose 0 = .ok (.aload_n 0, 1) := by decide +kernel
theorem dX5_lose_1 : decode cX5_lose 1 = .ok (.iconst 0, 1) := by decide +kernel
theorem dX5_lose_2 : decode cX5_lose 2 = .ok (.putfield 22, 3) := by decide +kernel
theorem dX5_lose_5 : decode cX5_lose 5 = .ok (.return_, 1) := by decide +kernel
theorem dX5_remember_0 : decode cX5_remember 0 = .ok (.aload_n 0, 1) := by decide +kernel
theorem dX5_remember_1 : decode cX5_remember 1 = .ok (.getfield 11, 3) := by decide +kernel
theorem dX5_remember_4 : decode cX5_remember 4 = .ok (.aload_n 0, 1) := by decide +kernel
theorem dX5_remember_5 : decode cX5_remember 5 = .ok (.getfield 18, 3) := by decide +kernel
theorem dX5_remember_8 : decode cX5_remember 8 = .ok (.aaload, 1) := by decide +kernel
theorem dX5_remember_9 : decode cX5_remember 9 = .ok (.aload_n 1, 1) := by decide +kernel
theorem dX5_remember_10 : decode cX5_remember 10 = .ok (.invokevirtual 25, 3) := by decide +kernel
theorem dX5_remember_13 : decode cX5_remember 13 = .ok (.aload_n 0, 1) := by decide +kernel
theorem dX5_remember_14 : decode cX5_remember 14 = .ok (.aload_n 0, 1) := by decide +kernel
theorem dX5_remember_15 : decode cX5_remember 15 = .ok (.getfield 18, 3) := by decide +kernel
theorem dX5_remember_18 : decode cX5_remember 18 = .ok (.iconst 1, 1) := by decide +kernel
theorem dX5_remember_19 : decode cX5_remember 19 = .ok (.iadd, 1) := by decide +kernel
theorem dX5_remember_20 : decode cX5_remember 20 = .ok (.bipush 10, 2) := by decide +kernel
theorem dX5_remember_22 : decode cX5_remember 22 = .ok (.irem, 1) := by decide +kernel
theorem dX5_remember_23 : decode cX5_remember 23 = .ok (.putfield 18, 3) := by decide +kernel
theorem dX5_remember_26 : decode cX5_remember 26 = .ok (.aload_n 0, 1) := by decide +kernel
theorem dX5_remember_27 : decode cX5_remember 27 = .ok (.aload_n 0, 1) := by decide +kernel
theorem dX5_remember_28 : decode cX5_remember 28 = .ok (.getfield 22, 3) := by decide +kernel
theorem dX5_remember_31 : decode cX5_remember 31 = .ok (.iconst 1, 1) := by decide +kernel
theorem dX5_remember_32 : decode cX5_remember 32 = .ok (.iadd, 1) := by decide +kernel
theorem dX5_remember_33 : decode cX5_remember 33 = .ok (.bipush 10, 2) := by decide +kernel
theorem dX5_remember_35 : decode cX5_remember 35 = .ok (.invokestatic 29, 3) := by decide +kernel
theorem dX5_remember_38 : decode cX5_remember 38 = .ok (.putfield 22, 3) := by decide +kernel
theorem dX5_remember_41 : decode cX5_remember 41 = .ok (.return_, 1) := by decide +kernel
theorem dX5_restore_0 : decode cX5_restore 0 = .ok (.aload_n 0, 1) := by decide +kernel
theorem dX5_restore_1 : decode cX5_restore 1 = .ok (.aload_n 0, 1) := by decide +kernel
theorem dX5_restore_2 : decode cX5_restore 2 = .ok (.getfield 18, 3) := by decide +kernel
theorem dX5_restore_5 : decode cX5_restore 5 = .ok (.bipush 10, 2) := by decide +kernel
theorem dX5_restore_7 : decode cX5_restore 7 = .ok (.iadd, 1) := by decide +kernel
theorem dX5_restore_8 : decode cX5_restore 8 = .ok (.iconst 1, 1) := by decide +kernel
theorem dX5_restore_9 : decode cX5_restore 9 = .ok (.isub, 1) := by decide +kernel
theorem dX5_restore_10 : decode cX5_restore 10 = .ok (.bipush 10, 2) := by decide +kernel
theorem dX5_restore_12 : decode cX5_restore 12 = .ok (.irem, 1) := by decide +kernel
theorem dX5_restore_13 : decode cX5_restore 13 = .ok (.putfield 18, 3) := by decide +kernel
theorem dX5_restore_16 : decode cX5_restore 16 = .ok (.aload_n 1, 1) := by decide +kernel
theorem dX5_restore_17 : decode cX5_restore 17 = .ok (.aload_n 0, 1) := by decide +kernel
theorem dX5_restore_18 : decode cX5_restore 18 = .ok (.getfield 11, 3) := by decide +kernel
theorem dX5_restore_21 : decode cX5_restore 21 = .ok (.aload_n 0, 1) := by decide +kernel
theorem dX5_restore_22 : decode cX5_restore 22 = .ok (.getfield 18, 3) := by decide +kernel
theorem dX5_restore_25 : decode cX5_restore 25 = .ok (.aaload, 1) := by decide +kernel
theorem dX5_restore_26 : decode cX5_restore 26 = .ok (.invokevirtual 25, 3) := by decide +kernel
theorem dX5_restore_29 : decode cX5_restore 29 = .ok (.aload_n 0, 1) := by decide +kernel
theorem dX5_restore_30 : decode cX5_restore 30 = .ok (.dup, 1) := by decide +kernel
theorem dX5_restore_31 : decode cX5_restore 31 = .ok (.getfield 22, 3) := by decide +kernel
theorem dX5_restore_34 : decode cX5_restore 34 = .ok (.iconst 1, 1) := by decide +kernel
theorem dX5_restore_35 : decode cX5_restore 35 = .ok (.isub, 1) := by decide +kernel
theorem dX5_restore_36 : decode cX5_restore 36 = .ok (.putfield 22, 3) := by decide +kernel
theorem dX5_restore_39 : decode cX5_restore 39 = .ok (.return_, 1) := by decide +kernel
theorem dX6_init_0 : decode cX6_init 0 = .ok (.aload_n 0, 1) := by decide +kernel
theorem dX6_init_1 : decode cX6_init 1 = .ok (.invokespecial 3, 3) := by decide +kernel
theorem dX6_init_4 : decode cX6_init 4 = .ok (.aload_n 0, 1) := by decide +kernel
theorem dX6_init_5 : decode cX6_init 5 = .ok (.sipush 200, 3) := by decide +kernel
theorem dX6_init_8 : decode cX6_init 8 = .ok (.newarray .int, 2) := by decide +kernel
theorem dX6_init_10 : decode cX6_init 10 = .ok (.putfield 9, 3) := by decide +kernel
theorem dX6_init_13 : decode cX6_init 13 = .ok (.aload_n 0, 1) := by decide +kernel
theorem dX6_init_14 : decode cX6_init 14 = .ok (.iconst 0, 1) := by decide +kernel
theorem dX6_init_15 : decode cX6_init 15 = .ok (.putfield 15, 3) := by decide +kernel
theorem dX6_init_18 : decode cX6_init 18 = .ok (.aload_n 0, 1) := by decide +kernel
theorem dX6_init_19 : decode cX6_init 19 = .ok (.iconst 0, 1) := by decide +kernel
theorem dX6_init_20 : decode cX6_init 20 = .ok (.putfield 19, 3) := by decide +kernel
theorem dX6_init_23 : decode cX6_init 23 = .ok (.return_, 1) := by decide +kernel
theorem dX6_add_0 : decode cX6_add 0 = .ok (.aload_n 0, 1) := by decide +kernel
theorem dX6_add_1 : decode cX6_add 1 = .ok (.getfield 15, 3) := by decide +kernel
theorem dX6_add_4 : decode cX6_add 4 = .ok (.sipush 200, 3) := by decide +kernel
theorem dX6_add_7 : decode cX6_add 7 = .ok (.if_icmp .ge 23, 3) := by decide +kernel
theorem dX6_add_10 : decode cX6_add 10 = .ok (.aload_n 0, 1) := by decide +kernel
theorem dX6_add_11 : decode cX6_add 11 = .ok (.getfield 9, 3) := by decide +kernel
theorem dX6_add_14 : decode cX6_add 14 = .ok (.aload_n 0, 1) := by decide +kernel
theorem dX6_add_15 : decode cX6_add 15 = .ok (.getfield 15, 3) := by decide +kernel
theorem dX6_add_18 : decode cX6_add 18 = .ok (.iload_n 1, 1) := by decide +kernel
theorem dX6_add_19 : decode cX6_add 19 = .ok (.iastore, 1) := by decide +kernel
theorem dX6_add_20 : decode cX6_add 20 = .ok (.aload_n 0, 1) := by decide +kernel
theorem dX6_add_21 : decode cX6_add 21 = .ok (.dup, 1) := by decide +kernel
theorem dX6_add_22 : decode cX6_add 22 = .ok (.getfield 15, 3) := by decide +kernel
theorem dX6_add_25 : decode cX6_add 25 = .ok (.iconst 1, 1) := by decide +kernel
theorem dX6_add_26 : decode cX6_add 26 = .ok (.iadd, 1) := by decide +kernel
theorem dX6_add_27 : decode cX6_add 27 = .ok (.putfield 15, 3) := by decide +kernel
theorem dX6_add_30 : decode cX6_add 30 = .ok (.return_, 1) := by decide +kernel
theorem dX6_readInto_0 : decode cX6_readInto 0 = .ok (.aload_n 1, 1) := by decide +kernel
theorem dX6_readInto_1 : decode cX6_readInto 1 = .ok (.invokevirtual 22, 3) := by decide +kernel
theorem dX6_readInto_4 : decode cX6_readInto 4 = .ok (.aload_n 0, 1) := by decide +kernel
theorem dX6_readInto_5 : decode cX6_readInto 5 = .ok (.iconst 0, 1) := by decide +kernel
theorem dX6_readInto_6 : decode cX6_readInto 6 = .ok (.putfield 27, 3) := by decide +kernel
theorem dX6_readInto_9 : decode cX6_readInto 9 = .ok (.aload_n 0, 1) := by decide +kernel
theorem dX6_readInto_10 : decode cX6_readInto 10 = .ok (.iconst 0, 1) := by decide +kernel
theorem dX6_readInto_11 : decode cX6_readInto 11 = .ok (.putfield 30, 3) := by decide +kernel
theorem dX6_readInto_14 : decode cX6_readInto 14 = .ok (.aload_n 0, 1) := by decide +kernel
theorem dX6_readInto_15 : decode cX6_readInto 15 = .ok (.iconst 0, 1) := by decide +kernel
theorem dX6_readInto_16 : decode cX6_readInto 16 = .ok (.putfield 34, 3) := by decide +kernel
theorem dX6_readInto_19 : decode cX6_readInto 19 = .ok (.aload_n 0, 1) := by decide +kernel
theorem dX6_readInto_20 : decode cX6_readInto 20 = .ok (.iconst 0, 1) := by decide +kernel
theorem dX6_readInto_21 : decode cX6_readInto 21 = .ok (.putfield 37, 3) := by decide +kernel
theorem dX6_readInto_24 : decode cX6_readInto 24 = .ok (.aload_n 0, 1) := by decide +kernel
theorem dX6_readInto_25 : decode cX6_readInto 25 = .ok (.invokevirtual 40, 3) := by decide +kernel
theorem dX6_readInto_28 : decode cX6_readInto 28 = .ok (.iconst 0, 1) := by decide +kernel
theorem dX6_readInto_29 : decode cX6_readInto 29 = .ok (.istore_n 2, 1) := by decide +kernel
theorem dX6_readInto_30 : decode cX6_readInto 30 = .ok (.iconst 0, 1) := by decide +kernel
theorem dX6_readInto_31 : decode cX6_readInto 31 = .ok (.istore_n 3, 1) := by decide +kernel
theorem dX6_readInto_32 : decode cX6_readInto 32 = .ok (.iload_n 3, 1) := by decide +kernel
theorem dX6_readInto_33 : decode cX6_readInto 33 = .ok (.sipush 200, 3) := by decide +kernel
theorem dX6_readInto_36 : decode cX6_readInto 36 = .ok (.if_icmp .ge 37, 3) := by decide +kernel
theorem dX6_readInto_39 : decode cX6_readInto 39 = .ok (.aload_n 0, 1) := by decide +kernel
theorem dX6_readInto_40 : decode cX6_readInto 40 = .ok (.getfield 27, 3) := by decide +kernel
theorem dX6_readInto_43 : decode cX6_readInto 43 = .ok (.aload_n 0, 1) := by decide +kernel
theorem dX6_readInto_44 : decode cX6_readInto 44 = .ok (.getfield 15, 3) := by decide +kernel
theorem dX6_readInto_47 : decode cX6_readInto 47 = .ok (.if_icmp .ge 26, 3) := by decide +kernel
theorem dX6_readInto_50 : decode cX6_readInto 50 = .ok (.aload_n 0, 1) := by decide +kernel
theorem dX6_readInto_51 : decode cX6_readInto 51 = .ok (.aload_n 1, 1) := by decide +kernel
theorem dX6_readInto_52 : decode cX6_readInto 52 = .ok (.invokevirtual 43, 3) := by decide +kernel
theorem dX6_readInto_55 : decode cX6_readInto 55 = .ok (.ifCond .ne 5, 3) := by decide +kernel
theorem dX6_readInto_58 : decode cX6_readInto 58 = .ok (.iconst (-1), 1) := by decide +kernel
theorem dX6_readInto_59 : decode cX6_readInto 59 = .ok (.ireturn, 1) := by decide +kernel
theorem dX6_readInto_60 : decode cX6_readInto 60 = .ok (.iinc 2 1, 3) := by decide +kernel
theorem dX6_readInto_63 : decode cX6_readInto 63 = .ok (.aload_n 0, 1) := by decide +kernel
theorem dX6_readInto_64 : decode cX6_readInto 64 = .ok (.invokevirtual 40, 3) := by decide +kernel
theorem dX6_readInto_67 : decode cX6_readInto 67 = .ok (.iinc 3 1, 3) := by decide +kernel
theorem dX6_readInto_70 : decode cX6_readInto 70 = .ok (.goto (-38), 3) := by decide +kernel
theorem dX6_readInto_73 : decode cX6_readInto 73 = .ok (.iload_n 2, 1) := by decide +kernel
theorem dX6_readInto_74 : decode cX6_readInto 74 = .ok (.ireturn, 1) := by decide +kernel
theorem dX6_readItem_0 : decode cX6_readItem 0 = .ok (.aload_n 0, 1) := by decide +kernel
theorem dX6_readItem_1 : decode cX6_readItem 1 = .ok (.getfield 9, 3) := by decide +kernel
theorem dX6_readItem_4 : decode cX6_readItem 4 = .ok (.aload_n 0, 1) := by decide +kernel
theorem dX6_readItem_5 : decode cX6_readItem 5 = .ok (.getfield 27, 3) := by decide +kernel
theorem dX6_readItem_8 : decode cX6_readItem 8 = .ok (.iaload, 1) := by decide +kernel
theorem dX6_readItem_9 : decode cX6_readItem 9 = .ok (.lookupswitch 185 #[(99, 122), (100, 80), (110, 164), (114, 59), (115, 101), (119, 143)], 59) := by decide +kernel
theorem dX6_readItem_68 : decode cX6_readItem 68 = .ok (.aload_n 0, 1) := by decide +kernel
theorem dX6_readItem_69 : decode cX6_readItem 69 = .ok (.aload_n 1, 1) := by decide +kernel
theorem dX6_readItem_70 : decode cX6_readItem 70 = .ok (.invokevirtual 47, 3) := by decide +kernel
theorem dX6_readItem_73 : decode cX6_readItem 73 = .ok (.ifCond .eq 14, 3) := by decide +kernel
theorem dX6_readItem_76 : decode cX6_readItem 76 = .ok (.aload_n 0, 1) := by decide +kernel
theorem dX6_readItem_77 : decode cX6_readItem 77 = .ok (.invokevirtual 50, 3) := by decide +kernel
theorem dX6_readItem_80 : decode cX6_readItem 80 = .ok (.ifCond .eq 7, 3) := by decide +kernel
theorem dX6_readItem_83 : decode cX6_readItem 83 = .ok (.iconst 1, 1) := by decide +kernel
theorem dX6_readItem_84 : decode cX6_readItem 84 = .ok (.goto 4, 3) := by decide +kernel
theorem dX6_readItem_87 : decode cX6_readItem 87 = .ok (.iconst 0, 1) := by decide +kernel
theorem dX6_readItem_88 : decode cX6_readItem 88 = .ok (.ireturn, 1) := by decide +kernel
theorem dX6_readItem_89 : decode cX6_readItem 89 = .ok (.aload_n 0, 1) := by decide +kernel
theorem dX6_readItem_90 : decode cX6_readItem 90 = .ok (.aload_n 1, 1) := by decide +kernel
theorem dX6_readItem_91 : decode cX6_readItem 91 = .ok (.invokevirtual 54, 3) := by decide +kernel
theorem dX6_readItem_94 : decode cX6_readItem 94 = .ok (.ifCond .eq 14, 3) := by decide +kernel
theorem dX6_readItem_97 : decode cX6_readItem 97 = .ok (.aload_n 0, 1) := by decide +kernel
theorem dX6_readItem_98 : decode cX6_readItem 98 = .ok (.invokevirtual 50, 3) := by decide +kernel
theorem dX6_readItem_101 : decode cX6_readItem 101 = .ok (.ifCond .eq 7, 3) := by decide +kernel
theorem dX6_readItem_104 : decode cX6_readItem 104 = .ok (.iconst 1, 1) := by decide +kernel
theorem dX6_readItem_105 : decode cX6_readItem 105 = .ok (.goto 4, 3) := by decide +kernel
theorem dX6_readItem_108 : decode cX6_readItem 108 = .ok (.iconst 0, 1) := by decide +kernel
theorem dX6_readItem_109 : decode cX6_readItem 109 = .ok (.ireturn, 1) := by decide +kernel
theorem dX6_readItem_110 : decode cX6_readItem 110 = .ok (.aload_n 0, 1) := by decide +kernel
theorem dX6_readItem_111 : decode cX6_readItem 111 = .ok (.aload_n 1, 1) := by decide +kernel
theorem dX6_readItem_112 : decode cX6_readItem 112 = .ok (.invokevirtual 57, 3) := by decide +kernel
theorem dX6_readItem_115 : decode cX6_readItem 115 = .ok (.ifCond .eq 14, 3) := by decide +kernel
theorem dX6_readItem_118 : decode cX6_readItem 118 = .ok (.aload_n 0, 1) := by decide +kernel
theorem dX6_readItem_119 : decode cX6_readItem 119 = .ok (.invokevirtual 50, 3) := by decide +kernel
theorem dX6_readItem_122 : decode cX6_readItem 122 = .ok (.ifCond .eq 7, 3) := by decide +kernel
theorem dX6_readItem_125 : decode cX6_readItem 125 = .ok (.iconst 1, 1) := by decide +kernel
theorem dX6_readItem_126 : decode cX6_readItem 126 = .ok (.goto 4, 3) := by decide +kernel
theorem dX6_readItem_129 : decode cX6_readItem 129 = .ok (.iconst 0, 1) := by decide +kernel
theorem dX6_readItem_130 : decode cX6_readItem 130 = .ok (.ireturn, 1) := by decide +kernel
theorem dX6_readItem_131 : decode cX6_readItem 131 = .ok (.aload_n 0, 1) := by decide +kernel
theorem dX6_readItem_132 : decode cX6_readItem 132 = .ok (.aload_n 1, 1) := by decide +kernel
theorem dX6_readItem_133 : decode cX6_readItem 133 = .ok (.invokevirtual 60, 3) := by decide +kernel
theorem dX6_readItem_136 : decode cX6_readItem 136 = .ok (.ifCond .eq 14, 3) := by decide +kernel
theorem dX6_readItem_139 : decode cX6_readItem 139 = .ok (.aload_n 0, 1) := by decide +kernel
theorem dX6_readItem_140 : decode cX6_readItem 140 = .ok (.invokevirtual 50, 3) := by decide +kernel
theorem dX6_readItem_143 : decode cX6_readItem 143 = .ok (.ifCond .eq 7, 3) := by decide +kernel
theorem dX6_readItem_146 : decode cX6_readItem 146 = .ok (.iconst 1, 1) := by decide +kernel
theorem dX6_readItem_147 : decode cX6_readItem 147 = .ok (.goto 4, 3) := by decide +kernel
theorem dX6_readItem_150 : decode cX6_readItem 150 = .ok (.iconst 0, 1) := by decide +kernel
theorem dX6_readItem_151 : decode cX6_readItem 151 = .ok (.ireturn, 1) := by decide +kernel
theorem dX6_readItem_152 : decode cX6_readItem 152 = .ok (.aload_n 0, 1) := by decide +kernel
theorem dX6_readItem_153 : decode cX6_readItem 153 = .ok (.aload_n 1, 1) := by decide +kernel
theorem dX6_readItem_154 : decode cX6_readItem 154 = .ok (.invokevirtual 63, 3) := by decide +kernel
theorem dX6_readItem_157 : decode cX6_readItem 157 = .ok (.ifCond .eq 14, 3) := by decide +kernel
theorem dX6_readItem_160 : decode cX6_readItem 160 = .ok (.aload_n 0, 1) := by decide +kernel
theorem dX6_readItem_161 : decode cX6_readItem 161 = .ok (.invokevirtual 50, 3) := by decide +kernel
theorem dX6_readItem_164 : decode cX6_readItem 164 = .ok (.ifCond .eq 7, 3) := by decide +kernel
theorem dX6_readItem_167 : decode cX6_readItem 167 = .ok (.iconst 1, 1) := by decide +kernel
theorem dX6_readItem_168 : decode cX6_readItem 168 = .ok (.goto 4, 3) := by decide +kernel
theorem dX6_readItem_171 : decode cX6_readItem 171 = .ok (.iconst 0, 1) := by decide +kernel
theorem dX6_readItem_172 : decode cX6_readItem 172 = .ok (.ireturn, 1) := by decide +kernel
theorem dX6_readItem_173 : decode cX6_readItem 173 = .ok (.aload_n 0, 1) := by decide +kernel
theorem dX6_readItem_174 : decode cX6_readItem 174 = .ok (.aload_n 1, 1) := by decide +kernel
theorem dX6_readItem_175 : decode cX6_readItem 175 = .ok (.invokevirtual 66, 3) := by decide +kernel
theorem dX6_readItem_178 : decode cX6_readItem 178 = .ok (.ifCond .eq 14, 3) := by decide +kernel
theorem dX6_readItem_181 : decode cX6_readItem 181 = .ok (.aload_n 0, 1) := by decide +kernel
theorem dX6_readItem_182 : decode cX6_readItem 182 = .ok (.invokevirtual 50, 3) := by decide +kernel
theorem dX6_readItem_185 : decode cX6_readItem 185 = .ok (.ifCond .eq 7, 3) := by decide +kernel
theorem dX6_readItem_188 : decode cX6_readItem 188 = .ok (.iconst 1, 1) := by decide +kernel
theorem dX6_readItem_189 : decode cX6_readItem 189 = .ok (.goto 4, 3) := by decide +kernel
theorem dX6_readItem_192 : decode cX6_readItem 192 = .ok (.iconst 0, 1) := by decide +kernel
theorem dX6_readItem_193 : decode cX6_readItem 193 = .ok (.ireturn, 1) := by decide +kernel
theorem dX6_readItem_194 : decode cX6_readItem 194 = .ok (.aload_n 0, 1) := by decide +kernel
theorem dX6_readItem_195 : decode cX6_readItem 195 = .ok (.aload_n 0, 1) := by decide +kernel
theorem dX6_readItem_196 : decode cX6_readItem 196 = .ok (.getfield 27, 3) := by decide +kernel
theorem dX6_readItem_199 : decode cX6_readItem 199 = .ok (.invokevirtual 69, 3) := by decide +kernel
theorem dX6_readItem_202 : decode cX6_readItem 202 = .ok (.ireturn, 1) := by decide +kernel
theorem dX6_readRoom_0 : decode cX6_readRoom 0 = .ok (.aload_n 1, 1) := by decide +kernel
theorem dX6_readRoom_1 : decode cX6_readRoom 1 = .ok (.getfield 73, 3) := by decide +kernel
theorem dX6_readRoom_4 : decode cX6_readRoom 4 = .ok (.istore_n 2, 1) := by decide +kernel
theorem dX6_readRoom_5 : decode cX6_readRoom 5 = .ok (.iload_n 2, 1) := by decide +kernel
theorem dX6_readRoom_6 : decode cX6_readRoom 6 = .ok (.iconst 5, 1) := by decide +kernel
theorem dX6_readRoom_7 : decode cX6_readRoom 7 = .ok (.if_icmp .lt 12, 3) := by decide +kernel
theorem dX6_readRoom_10 : decode cX6_readRoom 10 = .ok (.aload_n 0, 1) := by decide +kernel
theorem dX6_readRoom_11 : decode cX6_readRoom 11 = .ok (.aload_n 0, 1) := by decide +kernel
theorem dX6_readRoom_12 : decode cX6_readRoom 12 = .ok (.getfield 27, 3) := by decide +kernel
theorem dX6_readRoom_15 : decode cX6_readRoom 15 = .ok (.invokevirtual 69, 3) := by decide +kernel
theorem dX6_readRoom_18 : decode cX6_readRoom 18 = .ok (.ireturn, 1) := by decide +kernel
theorem dX6_readRoom_19 : decode cX6_readRoom 19 = .ok (.aload_n 0, 1) := by decide +kernel
theorem dX6_readRoom_20 : decode cX6_readRoom 20 = .ok (.dup, 1) := by decide +kernel
theorem dX6_readRoom_21 : decode cX6_readRoom 21 = .ok (.getfield 27, 3) := by decide +kernel
theorem dX6_readRoom_24 : decode cX6_readRoom 24 = .ok (.iconst 1, 1) := by decide +kernel
theorem dX6_readRoom_25 : decode cX6_readRoom 25 = .ok (.iadd, 1) := by decide +kernel
theorem dX6_readRoom_26 : decode cX6_readRoom 26 = .ok (.putfield 27, 3) := by decide +kernel
theorem dX6_readRoom_29 : decode cX6_readRoom 29 = .ok (.aload_n 1, 1) := by decide +kernel
theorem dX6_readRoom_30 : decode cX6_readRoom 30 = .ok (.getfield 76, 3) := by decide +kernel
theorem dX6_readRoom_33 : decode cX6_readRoom 33 = .ok (.iload_n 2, 1) := by decide +kernel
theorem dX6_readRoom_34 : decode cX6_readRoom 34 = .ok (.aload_n 0, 1) := by decide +kernel
theorem dX6_readRoom_35 : decode cX6_readRoom 35 = .ok (.iconst 0, 1) := by decide +kernel
theorem dX6_readRoom_36 : decode cX6_readRoom 36 = .ok (.bipush 30, 2) := by decide +kernel
theorem dX6_readRoom_38 : decode cX6_readRoom 38 = .ok (.invokevirtual 79, 3) := by decide +kernel
theorem dX6_readRoom_41 : decode cX6_readRoom 41 = .ok (.iastore, 1) := by decide +kernel
theorem dX6_readRoom_42 : decode cX6_readRoom 42 = .ok (.aload_n 1, 1) := by decide +kernel
theorem dX6_readRoom_43 : decode cX6_readRoom 43 = .ok (.getfield 76, 3) := by decide +kernel
theorem dX6_readRoom_46 : decode cX6_readRoom 46 = .ok (.iload_n 2, 1) := by decide +kernel
theorem dX6_readRoom_47 : decode cX6_readRoom 47 = .ok (.iaload, 1) := by decide +kernel
theorem dX6_readRoom_48 : decode cX6_readRoom 48 = .ok (.ifCond .ge 5, 3) := by decide +kernel
theorem dX6_readRoom_51 : decode cX6_readRoom 51 = .ok (.iconst 0, 1) := by decide +kernel
theorem dX6_readRoom_52 : decode cX6_readRoom 52 = .ok (.ireturn, 1) := by decide +kernel
theorem dX6_readRoom_53 : decode cX6_readRoom 53 = .ok (.aload_n 1, 1) := by decide +kernel
theorem dX6_readRoom_54 : decode cX6_readRoom 54 = .ok (.getfield 83, 3) := by decide +kernel
theorem dX6_readRoom_57 : decode cX6_readRoom 57 = .ok (.iload_n 2, 1) := by decide +kernel
theorem dX6_readRoom_58 : decode cX6_readRoom 58 = .ok (.aload_n 0, 1) := by decide +kernel
theorem dX6_readRoom_59 : decode cX6_readRoom 59 = .ok (.iconst 0, 1) := by decide +kernel
theorem dX6_readRoom_60 : decode cX6_readRoom 60 = .ok (.iconst 3, 1) := by decide +kernel
theorem dX6_readRoom_61 : decode cX6_readRoom 61 = .ok (.invokevirtual 79, 3) := by decide +kernel
theorem dX6_readRoom_64 : decode cX6_readRoom 64 = .ok (.iastore, 1) := by decide +kernel
theorem dX6_readRoom_65 : decode cX6_readRoom 65 = .ok (.aload_n 1, 1) := by decide +kernel
theorem dX6_readRoom_66 : decode cX6_readRoom 66 = .ok (.getfield 83, 3) := by decide +kernel
theorem dX6_readRoom_69 : decode cX6_readRoom 69 = .ok (.iload_n 2, 1) := by decide +kernel
theorem dX6_readRoom_70 : decode cX6_readRoom 70 = .ok (.iaload, 1) := by decide +kernel
theorem dX6_readRoom_71 : decode cX6_readRoom 71 = .ok (.ifCond .ge 5, 3) := by decide +kernel
theorem dX6_readRoom_74 : decode cX6_readRoom 74 = .ok (.iconst 0, 1) := by decide +kernel
theorem dX6_readRoom_75 : decode cX6_readRoom 75 = .ok (.ireturn, 1) := by decide +kernel
theorem dX6_readRoom_76 : decode cX6_readRoom 76 = .ok (.aload_n 1, 1) := by decide +kernel
theorem dX6_readRoom_77 : decode cX6_readRoom 77 = .ok (.getfield 86, 3) := by decide +kernel
theorem dX6_readRoom_80 : decode cX6_readRoom 80 = .ok (.iload_n 2, 1) := by decide +kernel
theorem dX6_readRoom_81 : decode cX6_readRoom 81 = .ok (.aload_n 0, 1) := by decide +kernel
theorem dX6_readRoom_82 : decode cX6_readRoom 82 = .ok (.iconst 0, 1) := by decide +kernel
theorem dX6_readRoom_83 : decode cX6_readRoom 83 = .ok (.bipush 99, 2) := by decide +kernel
theorem dX6_readRoom_85 : decode cX6_readRoom 85 = .ok (.invokevirtual 79, 3) := by decide +kernel
theorem dX6_readRoom_88 : decode cX6_readRoom 88 = .ok (.iastore, 1) := by decide +kernel
theorem dX6_readRoom_89 : decode cX6_readRoom 89 = .ok (.aload_n 1, 1) := by decide +kernel
theorem dX6_readRoom_90 : decode cX6_readRoom 90 = .ok (.dup, 1) := by decide +kernel
theorem dX6_readRoom_91 : decode cX6_readRoom 91 = .ok (.getfield 73, 3) := by decide +kernel
theorem dX6_readRoom_94 : decode cX6_readRoom 94 = .ok (.iconst 1, 1) := by decide +kernel
theorem dX6_readRoom_95 : decode cX6_readRoom 95 = .ok (.iadd, 1) := by decide +kernel
theorem dX6_readRoom_96 : decode cX6_readRoom 96 = .ok (.putfield 73, 3) := by decide +kernel
theorem dX6_readRoom_99 : decode cX6_readRoom 99 = .ok (.aload_n 1, 1) := by decide +kernel
theorem dX6_readRoom_100 : decode cX6_readRoom 100 = .ok (.getfield 86, 3) := by decide +kernel
theorem dX6_readRoom_103 : decode cX6_readRoom 103 = .ok (.iload_n 2, 1) := by decide +kernel
theorem dX6_readRoom_104 : decode cX6_readRoom 104 = .ok (.iaload, 1) := by decide +kernel
theorem dX6_readRoom_105 : decode cX6_readRoom 105 = .ok (.ifCond .lt 7, 3) := by decide +kernel
theorem dX6_readRoom_108 : decode cX6_readRoom 108 = .ok (.iconst 1, 1) := by decide +kernel
theorem dX6_readRoom_109 : decode cX6_readRoom 109 = .ok (.goto 4, 3) := by decide +kernel
theorem dX6_readRoom_112 : decode cX6_readRoom 112 = .ok (.iconst 0, 1) := by decide +kernel
theorem dX6_readRoom_113 : decode cX6_readRoom 113 = .ok (.ireturn, 1) := by decide +kernel
theorem dX6_readDoing_0 : decode cX6_readDoing 0 = .ok (.aload_n 1, 1) := by decide +kernel
theorem dX6_readDoing_1 : decode cX6_readDoing 1 = .ok (.getfield 89, 3) := by decide +kernel
theorem dX6_readDoing_4 : decode cX6_readDoing 4 = .ok (.istore_n 2, 1) := by decide +kernel
theorem dX6_readDoing_5 : decode cX6_readDoing 5 = .ok (.iload_n 2, 1) := by decide +kernel
theorem dX6_readDoing_6 : decode cX6_readDoing 6 = .ok (.iconst 5, 1) := by decide +kernel
theorem dX6_readDoing_7 : decode cX6_readDoing 7 = .ok (.if_icmp .lt 12, 3) := by decide +kernel
theorem dX6_readDoing_10 : decode cX6_readDoing 10 = .ok (.aload_n 0, 1) := by decide +kernel
theorem dX6_readDoing_11 : decode cX6_readDoing 11 = .ok (.aload_n 0, 1) := by decide +kernel
theorem dX6_readDoing_12 : decode cX6_readDoing 12 = .ok (.getfield 27, 3) := by decide +kernel
theorem dX6_readDoing_15 : decode cX6_readDoing 15 = .ok (.invokevirtual 69, 3) := by decide +kernel
theorem dX6_readDoing_18 : decode cX6_readDoing 18 = .ok (.ireturn, 1) := by decide +kernel
theorem dX6_readDoing_19 : decode cX6_readDoing 19 = .ok (.aload_n 0, 1) := by decide +kernel
theorem dX6_readDoing_20 : decode cX6_readDoing 20 = .ok (.dup, 1) := by decide +kernel
theorem dX6_readDoing_21 : decode cX6_readDoing 21 = .ok (.getfield 27, 3) := by decide +kernel
theorem dX6_readDoing_24 : decode cX6_readDoing 24 = .ok (.iconst 1, 1) := by decide +kernel
theorem dX6_readDoing_25 : decode cX6_readDoing 25 = .ok (.iadd, 1) := by decide +kernel
theorem dX6_readDoing_26 : decode cX6_readDoing 26 = .ok (.putfield 27, 3) := by decide +kernel
theorem dX6_readDoing_29 : decode cX6_readDoing 29 = .ok (.aload_n 1, 1) := by decide +kernel
theorem dX6_readDoing_30 : decode cX6_readDoing 30 = .ok (.getfield 92, 3) := by decide +kernel
theorem dX6_readDoing_33 : decode cX6_readDoing 33 = .ok (.iload_n 2, 1) := by decide +kernel
theorem dX6_readDoing_34 : decode cX6_readDoing 34 = .ok (.aload_n 0, 1) := by decide +kernel
theorem dX6_readDoing_35 : decode cX6_readDoing 35 = .ok (.iconst 0, 1) := by decide +kernel
theorem dX6_readDoing_36 : decode cX6_readDoing 36 = .ok (.bipush 9, 2) := by decide +kernel
theorem dX6_readDoing_38 : decode cX6_readDoing 38 = .ok (.invokevirtual 79, 3) := by decide +kernel
theorem dX6_readDoing_41 : decode cX6_readDoing 41 = .ok (.iastore, 1) := by decide +kernel
theorem dX6_readDoing_42 : decode cX6_readDoing 42 = .ok (.aload_n 1, 1) := by decide +kernel
theorem dX6_readDoing_43 : decode cX6_readDoing 43 = .ok (.getfield 92, 3) := by decide +kernel
theorem dX6_readDoing_46 : decode cX6_readDoing 46 = .ok (.iload_n 2, 1) := by decide +kernel
theorem dX6_readDoing_47 : decode cX6_readDoing 47 = .ok (.iaload, 1) := by decide +kernel
theorem dX6_readDoing_48 : decode cX6_readDoing 48 = .ok (.ifCond .ge 5, 3) := by decide +kernel
theorem dX6_readDoing_51 : decode cX6_readDoing 51 = .ok (.iconst 0, 1) := by decide +kernel
theorem dX6_readDoing_52 : decode cX6_readDoing 52 = .ok (.ireturn, 1) := by decide +kernel
theorem dX6_readDoing_53 : decode cX6_readDoing 53 = .ok (.aload_n 1, 1) := by decide +kernel
theorem dX6_readDoing_54 : decode cX6_readDoing 54 = .ok (.getfield 95, 3) := by decide +kernel
theorem dX6_readDoing_57 : decode cX6_readDoing 57 = .ok (.iload_n 2, 1) := by decide +kernel
theorem dX6_readDoing_58 : decode cX6_readDoing 58 = .ok (.aload_n 0, 1) := by decide +kernel
theorem dX6_readDoing_59 : decode cX6_readDoing 59 = .ok (.iconst 1, 1) := by decide +kernel
theorem dX6_readDoing_60 : decode cX6_readDoing 60 = .ok (.bipush 30, 2) := by decide +kernel
theorem dX6_readDoing_62 : decode cX6_readDoing 62 = .ok (.invokevirtual 79, 3) := by decide +kernel
theorem dX6_readDoing_65 : decode cX6_readDoing 65 = .ok (.iastore, 1) := by decide +kernel
theorem dX6_readDoing_66 : decode cX6_readDoing 66 = .ok (.aload_n 1, 1) := by decide +kernel
theorem dX6_readDoing_67 : decode cX6_readDoing 67 = .ok (.dup, 1) := by decide +kernel
theorem dX6_readDoing_68 : decode cX6_readDoing 68 = .ok (.getfield 89, 3) := by decide +kernel
theorem dX6_readDoing_71 : decode cX6_readDoing 71 = .ok (.iconst 1, 1) := by decide +kernel
theorem dX6_readDoing_72 : decode cX6_readDoing 72 = .ok (.iadd, 1) := by decide +kernel
theorem dX6_readDoing_73 : decode cX6_readDoing 73 = .ok (.putfield 89, 3) := by decide +kernel
theorem dX6_readDoing_76 : decode cX6_readDoing 76 = .ok (.aload_n 1, 1) := by decide +kernel
theorem dX6_readDoing_77 : decode cX6_readDoing 77 = .ok (.getfield 95, 3) := by decide +kernel
theorem dX6_readDoing_80 : decode cX6_readDoing 80 = .ok (.iload_n 2, 1) := by decide +kernel
theorem dX6_readDoing_81 : decode cX6_readDoing 81 = .ok (.iaload, 1) := by decide +kernel
theorem dX6_readDoing_82 : decode cX6_readDoing 82 = .ok (.ifCond .lt 7, 3) := by decide +kernel
theorem dX6_readDoing_85 : decode cX6_readDoing 85 = .ok (.iconst 1, 1) := by decide +kernel
theorem dX6_readDoing_86 : decode cX6_readDoing 86 = .ok (.goto 4, 3) := by decide +kernel
theorem dX6_readDoing_89 : decode cX6_readDoing 89 = .ok (.iconst 0, 1) := by decide +kernel
theorem dX6_readDoing_90 : decode cX6_readDoing 90 = .ok (.ireturn, 1) := by decide +kernel
theorem dX6_readSuspect_0 : decode cX6_readSuspect 0 = .ok (.aload_n 1, 1) := by decide +kernel
theorem dX6_readSuspect_1 : decode cX6_readSuspect 1 = .ok (.getfield 98, 3) := by decide +kernel
theorem dX6_readSuspect_4 : decode cX6_readSuspect 4 = .ok (.istore_n 2, 1) := by decide +kernel
theorem dX6_readSuspect_5 : decode cX6_readSuspect 5 = .ok (.iload_n 2, 1) := by decide +kernel
theorem dX6_readSuspect_6 : decode cX6_readSuspect 6 = .ok (.bipush 6, 2) := by decide +kernel
theorem dX6_readSuspect_8 : decode cX6_readSuspect 8 = .ok (.if_icmp .lt 12, 3) := by decide +kernel
theorem dX6_readSuspect_11 : decode cX6_readSuspect 11 = .ok (.aload_n 0, 1) := by decide +kernel
theorem dX6_readSuspect_12 : decode cX6_readSuspect 12 = .ok (.aload_n 0, 1) := by decide +kernel
theorem dX6_readSuspect_13 : decode cX6_readSuspect 13 = .ok (.getfield 27, 3) := by decide +kernel
theorem dX6_readSuspect_16 : decode cX6_readSuspect 16 = .ok (.invokevirtual 69, 3) := by decide +kernel
theorem dX6_readSuspect_19 : decode cX6_readSuspect 19 = .ok (.ireturn, 1) := by decide +kernel
theorem dX6_readSuspect_20 : decode cX6_readSuspect 20 = .ok (.aload_n 0, 1) := by decide +kernel
theorem dX6_readSuspect_21 : decode cX6_readSuspect 21 = .ok (.dup, 1) := by decide +kernel
theorem dX6_readSuspect_22 : decode cX6_readSuspect 22 = .ok (.getfield 27, 3) := by decide +kernel
theorem dX6_readSuspect_25 : decode cX6_readSuspect 25 = .ok (.iconst 1, 1) := by decide +kernel
theorem dX6_readSuspect_26 : decode cX6_readSuspect 26 = .ok (.iadd, 1) := by decide +kernel
theorem dX6_readSuspect_27 : decode cX6_readSuspect 27 = .ok (.putfield 27, 3) := by decide +kernel
theorem dX6_readSuspect_30 : decode cX6_readSuspect 30 = .ok (.aload_n 1, 1) := by decide +kernel
theorem dX6_readSuspect_31 : decode cX6_readSuspect 31 = .ok (.getfield 101, 3) := by decide +kernel
theorem dX6_readSuspect_34 : decode cX6_readSuspect 34 = .ok (.iload_n 2, 1) := by decide +kernel
theorem dX6_readSuspect_35 : decode cX6_readSuspect 35 = .ok (.aload_n 0, 1) := by decide +kernel
theorem dX6_readSuspect_36 : decode cX6_readSuspect 36 = .ok (.iconst 0, 1) := by decide +kernel
theorem dX6_readSuspect_37 : decode cX6_readSuspect 37 = .ok (.bipush 31, 2) := by decide +kernel
theorem dX6_readSuspect_39 : decode cX6_readSuspect 39 = .ok (.invokevirtual 79, 3) := by decide +kernel
theorem dX6_readSuspect_42 : decode cX6_readSuspect 42 = .ok (.iastore, 1) := by decide +kernel
theorem dX6_readSuspect_43 : decode cX6_readSuspect 43 = .ok (.aload_n 1, 1) := by decide +kernel
theorem dX6_readSuspect_44 : decode cX6_readSuspect 44 = .ok (.dup, 1) := by decide +kernel
theorem dX6_readSuspect_45 : decode cX6_readSuspect 45 = .ok (.getfield 98, 3) := by decide +kernel
theorem dX6_readSuspect_48 : decode cX6_readSuspect 48 = .ok (.iconst 1, 1) := by decide +kernel
theorem dX6_readSuspect_49 : decode cX6_readSuspect 49 = .ok (.iadd, 1) := by decide +kernel
theorem dX6_readSuspect_50 : decode cX6_readSuspect 50 = .ok (.putfield 98, 3) := by decide +kernel
theorem dX6_readSuspect_53 : decode cX6_readSuspect 53 = .ok (.aload_n 1, 1) := by decide +kernel
theorem dX6_readSuspect_54 : decode cX6_readSuspect 54 = .ok (.getfield 101, 3) := by decide +kernel
theorem dX6_readSuspect_57 : decode cX6_readSuspect 57 = .ok (.iload_n 2, 1) := by decide +kernel
theorem dX6_readSuspect_58 : decode cX6_readSuspect 58 = .ok (.iaload, 1) := by decide +kernel
theorem dX6_readSuspect_59 : decode cX6_readSuspect 59 = .ok (.ifCond .lt 7, 3) := by decide +kernel
theorem dX6_readSuspect_62 : decode cX6_readSuspect 62 = .ok (.iconst 1, 1) := by decide +kernel
theorem dX6_readSuspect_63 : decode cX6_readSuspect 63 = .ok (.goto 4, 3) := by decide +kernel
theorem dX6_readSuspect_66 : decode cX6_readSuspect 66 = .ok (.iconst 0, 1) := by decide +kernel
theorem dX6_readSuspect_67 : decode cX6_readSuspect 67 = .ok (.ireturn, 1) := by decide +kernel
theorem dX6_readCulprit_0 : decode cX6_readCulprit 0 = .ok (.aload_n 0, 1) := by decide +kernel
theorem dX6_readCulprit_1 : decode cX6_readCulprit 1 = .ok (.getfield 30, 3) := by decide +kernel
theorem dX6_readCulprit_4 : decode cX6_readCulprit 4 = .ok (.ifCond .eq 12, 3) := by decide +kernel
theorem dX6_readCulprit_7 : decode cX6_readCulprit 7 = .ok (.aload_n 0, 1) := by decide +kernel
theorem dX6_readCulprit_8 : decode cX6_readCulprit 8 = .ok (.aload_n 0, 1) := by decide +kernel
theorem dX6_readCulprit_9 : decode cX6_readCulprit 9 = .ok (.getfield 27, 3) := by decide +kernel
theorem dX6_readCulprit_12 : decode cX6_readCulprit 12 = .ok (.invokevirtual 69, 3) := by decide +kernel
theorem dX6_readCulprit_15 : decode cX6_readCulprit 15 = .ok (.ireturn, 1) := by decide +kernel
theorem dX6_readCulprit_16 : decode cX6_readCulprit 16 = .ok (.aload_n 0, 1) := by decide +kernel
theorem dX6_readCulprit_17 : decode cX6_readCulprit 17 = .ok (.iconst 1, 1) := by decide +kernel
theorem dX6_readCulprit_18 : decode cX6_readCulprit 18 = .ok (.putfield 30, 3) := by decide +kernel
theorem dX6_readCulprit_21 : decode cX6_readCulprit 21 = .ok (.aload_n 0, 1) := by decide +kernel
theorem dX6_readCulprit_22 : decode cX6_readCulprit 22 = .ok (.dup, 1) := by decide +kernel
theorem dX6_readCulprit_23 : decode cX6_readCulprit 23 = .ok (.getfield 27, 3) := by decide +kernel
theorem dX6_readCulprit_26 : decode cX6_readCulprit 26 = .ok (.iconst 1, 1) := by decide +kernel
theorem dX6_readCulprit_27 : decode cX6_readCulprit 27 = .ok (.iadd, 1) := by decide +kernel
theorem dX6_readCulprit_28 : decode cX6_readCulprit 28 = .ok (.putfield 27, 3) := by decide +kernel
theorem dX6_readCulprit_31 : decode cX6_readCulprit 31 = .ok (.aload_n 1, 1) := by decide +kernel
theorem dX6_readCulprit_32 : decode cX6_readCulprit 32 = .ok (.aload_n 0, 1) := by decide +kernel
theorem dX6_readCulprit_33 : decode cX6_readCulprit 33 = .ok (.iconst 0, 1) := by decide +kernel
theorem dX6_readCulprit_34 : decode cX6_readCulprit 34 = .ok (.aload_n 1, 1) := by decide +kernel
theorem dX6_readCulprit_35 : decode cX6_readCulprit 35 = .ok (.getfield 98, 3) := by decide +kernel
theorem dX6_readCulprit_38 : decode cX6_readCulprit 38 = .ok (.iconst 1, 1) := by decide +kernel
theorem dX6_readCulprit_39 : decode cX6_readCulprit 39 = .ok (.isub, 1) := by decide +kernel
theorem dX6_readCulprit_40 : decode cX6_readCulprit 40 = .ok (.invokevirtual 79, 3) := by decide +kernel
theorem dX6_readCulprit_43 : decode cX6_readCulprit 43 = .ok (.putfield 104, 3) := by decide +kernel
theorem dX6_readCulprit_46 : decode cX6_readCulprit 46 = .ok (.aload_n 1, 1) := by decide +kernel
theorem dX6_readCulprit_47 : decode cX6_readCulprit 47 = .ok (.getfield 104, 3) := by decide +kernel
theorem dX6_readCulprit_50 : decode cX6_readCulprit 50 = .ok (.ifCond .lt 7, 3) := by decide +kernel
theorem dX6_readCulprit_53 : decode cX6_readCulprit 53 = .ok (.iconst 1, 1) := by decide +kernel
theorem dX6_readCulprit_54 : decode cX6_readCulprit 54 = .ok (.goto 4, 3) := by decide +kernel
theorem dX6_readCulprit_57 : decode cX6_readCulprit 57 = .ok (.iconst 0, 1) := by decide +kernel
theorem dX6_readCulprit_58 : decode cX6_readCulprit 58 = .ok (.ireturn, 1) := by decide +kernel
theorem dX6_readWalk_0 : decode cX6_readWalk 0 = .ok (.aload_n 0, 1) := by decide +kernel
theorem dX6_readWalk_1 : decode cX6_readWalk 1 = .ok (.getfield 34, 3) := by decide +kernel
theorem dX6_readWalk_4 : decode cX6_readWalk 4 = .ok (.ifCond .eq 12, 3) := by decide +kernel
theorem dX6_readWalk_7 : decode cX6_readWalk 7 = .ok (.aload_n 0, 1) := by decide +kernel
theorem dX6_readWalk_8 : decode cX6_readWalk 8 = .ok (.aload_n 0, 1) := by decide +kernel
theorem dX6_readWalk_9 : decode cX6_readWalk 9 = .ok (.getfield 27, 3) := by decide +kernel
theorem dX6_readWalk_12 : decode cX6_readWalk 12 = .ok (.invokevirtual 69, 3) := by decide +kernel
theorem dX6_readWalk_15 : decode cX6_readWalk 15 = .ok (.ireturn, 1) := by decide +kernel
theorem dX6_readWalk_16 : decode cX6_readWalk 16 = .ok (.aload_n 0, 1) := by decide +kernel
theorem dX6_readWalk_17 : decode cX6_readWalk 17 = .ok (.iconst 1, 1) := by decide +kernel
theorem dX6_readWalk_18 : decode cX6_readWalk 18 = .ok (.putfield 34, 3) := by decide +kernel
theorem dX6_readWalk_21 : decode cX6_readWalk 21 = .ok (.aload_n 0, 1) := by decide +kernel
theorem dX6_readWalk_22 : decode cX6_readWalk 22 = .ok (.dup, 1) := by decide +kernel
theorem dX6_readWalk_23 : decode cX6_readWalk 23 = .ok (.getfield 27, 3) := by decide +kernel
theorem dX6_readWalk_26 : decode cX6_readWalk 26 = .ok (.iconst 1, 1) := by decide +kernel
theorem dX6_readWalk_27 : decode cX6_readWalk 27 = .ok (.iadd, 1) := by decide +kernel
theorem dX6_readWalk_28 : decode cX6_readWalk 28 = .ok (.putfield 27, 3) := by decide +kernel
theorem dX6_readWalk_31 : decode cX6_readWalk 31 = .ok (.aload_n 1, 1) := by decide +kernel
theorem dX6_readWalk_32 : decode cX6_readWalk 32 = .ok (.aload_n 0, 1) := by decide +kernel
theorem dX6_readWalk_33 : decode cX6_readWalk 33 = .ok (.iconst 0, 1) := by decide +kernel
theorem dX6_readWalk_34 : decode cX6_readWalk 34 = .ok (.bipush 9, 2) := by decide +kernel
theorem dX6_readWalk_36 : decode cX6_readWalk 36 = .ok (.invokevirtual 79, 3) := by decide +kernel
theorem dX6_readWalk_39 : decode cX6_readWalk 39 = .ok (.putfield 107, 3) := by decide +kernel
theorem dX6_readWalk_42 : decode cX6_readWalk 42 = .ok (.aload_n 1, 1) := by decide +kernel
theorem dX6_readWalk_43 : decode cX6_readWalk 43 = .ok (.getfield 107, 3) := by decide +kernel
theorem dX6_readWalk_46 : decode cX6_readWalk 46 = .ok (.ifCond .lt 7, 3) := by decide +kernel
theorem dX6_readWalk_49 : decode cX6_readWalk 49 = .ok (.iconst 1, 1) := by decide +kernel
theorem dX6_readWalk_50 : decode cX6_readWalk 50 = .ok (.goto 4, 3) := by decide +kernel
theorem dX6_readWalk_53 : decode cX6_readWalk 53 = .ok (.iconst 0, 1) := by decide +kernel
theorem dX6_readWalk_54 : decode cX6_readWalk 54 = .ok (.ireturn, 1) := by decide +kernel
theorem dX6_readNight_0 : decode cX6_readNight 0 = .ok (.aload_n 0, 1) := by decide +kernel
theorem dX6_readNight_1 : decode cX6_readNight 1 = .ok (.getfield 37, 3) := by decide +kernel
theorem dX6_readNight_4 : decode cX6_readNight 4 = .ok (.ifCond .eq 12, 3) := by decide +kernel
theorem dX6_readNight_7 : decode cX6_readNight 7 = .ok (.aload_n 0, 1) := by decide +kernel
theorem dX6_readNight_8 : decode cX6_readNight 8 = .ok (.aload_n 0, 1) := by decide +kernel
theorem dX6_readNight_9 : decode cX6_readNight 9 = .ok (.getfield 27, 3) := by decide +kernel
theorem dX6_readNight_12 : decode cX6_readNight 12 = .ok (.invokevirtual 69, 3) := by decide +kernel
theorem dX6_readNight_15 : decode cX6_readNight 15 = .ok (.ireturn, 1) := by decide +kernel
theorem dX6_readNight_16 : decode cX6_readNight 16 = .ok (.aload_n 0, 1) := by decide +kernel
theorem dX6_readNight_17 : decode cX6_readNight 17 = .ok (.iconst 1, 1) := by decide +kernel
theorem dX6_readNight_18 : decode cX6_readNight 18 = .ok (.putfield 37, 3) := by decide +kernel
theorem dX6_readNight_21 : decode cX6_readNight 21 = .ok (.aload_n 0, 1) := by decide +kernel
theorem dX6_readNight_22 : decode cX6_readNight 22 = .ok (.dup, 1) := by decide +kernel
theorem dX6_readNight_23 : decode cX6_readNight 23 = .ok (.getfield 27, 3) := by decide +kernel
theorem dX6_readNight_26 : decode cX6_readNight 26 = .ok (.iconst 1, 1) := by decide +kernel
theorem dX6_readNight_27 : decode cX6_readNight 27 = .ok (.iadd, 1) := by decide +kernel
theorem dX6_readNight_28 : decode cX6_readNight 28 = .ok (.putfield 27, 3) := by decide +kernel
theorem dX6_readNight_31 : decode cX6_readNight 31 = .ok (.aload_n 1, 1) := by decide +kernel
theorem dX6_readNight_32 : decode cX6_readNight 32 = .ok (.aload_n 0, 1) := by decide +kernel
theorem dX6_readNight_33 : decode cX6_readNight 33 = .ok (.iconst 1, 1) := by decide +kernel
theorem dX6_readNight_34 : decode cX6_readNight 34 = .ok (.sipush 500, 3) := by decide +kernel
theorem dX6_readNight_37 : decode cX6_readNight 37 = .ok (.invokevirtual 79, 3) := by decide +kernel
theorem dX6_readNight_40 : decode cX6_readNight 40 = .ok (.putfield 110, 3) := by decide +kernel
theorem dX6_readNight_43 : decode cX6_readNight 43 = .ok (.aload_n 1, 1) := by decide +kernel
theorem dX6_readNight_44 : decode cX6_readNight 44 = .ok (.getfield 110, 3) := by decide +kernel
theorem dX6_readNight_47 : decode cX6_readNight 47 = .ok (.ifCond .lt 7, 3) := by decide +kernel
theorem dX6_readNight_50 : decode cX6_readNight 50 = .ok (.iconst 1, 1) := by decide +kernel
theorem dX6_readNight_51 : decode cX6_readNight 51 = .ok (.goto 4, 3) := by decide +kernel
theorem dX6_readNight_54 : decode cX6_readNight 54 = .ok (.iconst 0, 1) := by decide +kernel
theorem dX6_readNight_55 : decode cX6_readNight 55 = .ok (.ireturn, 1) := by decide +kernel
theorem dX6_readEnd_0 : decode cX6_readEnd 0 = .ok (.aload_n 0, 1) := by decide +kernel
theorem dX6_readEnd_1 : decode cX6_readEnd 1 = .ok (.invokevirtual 40, 3) := by decide +kernel
theorem dX6_readEnd_4 : decode cX6_readEnd 4 = .ok (.aload_n 0, 1) := by decide +kernel
theorem dX6_readEnd_5 : decode cX6_readEnd 5 = .ok (.getfield 27, 3) := by decide +kernel
theorem dX6_readEnd_8 : decode cX6_readEnd 8 = .ok (.aload_n 0, 1) := by decide +kernel
theorem dX6_readEnd_9 : decode cX6_readEnd 9 = .ok (.getfield 15, 3) := by decide +kernel
theorem dX6_readEnd_12 : decode cX6_readEnd 12 = .ok (.if_icmp .ge 17, 3) := by decide +kernel
theorem dX6_readEnd_15 : decode cX6_readEnd 15 = .ok (.aload_n 0, 1) := by decide +kernel
theorem dX6_readEnd_16 : decode cX6_readEnd 16 = .ok (.getfield 9, 3) := by decide +kernel
theorem dX6_readEnd_19 : decode cX6_readEnd 19 = .ok (.aload_n 0, 1) := by decide +kernel
theorem dX6_readEnd_20 : decode cX6_readEnd 20 = .ok (.getfield 27, 3) := by decide +kernel
theorem dX6_readEnd_23 : decode cX6_readEnd 23 = .ok (.iaload, 1) := by decide +kernel
theorem dX6_readEnd_24 : decode cX6_readEnd 24 = .ok (.bipush 59, 2) := by decide +kernel
theorem dX6_readEnd_26 : decode cX6_readEnd 26 = .ok (.if_icmp .eq 12, 3) := by decide +kernel
theorem dX6_readEnd_29 : decode cX6_readEnd 29 = .ok (.aload_n 0, 1) := by decide +kernel
theorem dX6_readEnd_30 : decode cX6_readEnd 30 = .ok (.aload_n 0, 1) := by decide +kernel
theorem dX6_readEnd_31 : decode cX6_readEnd 31 = .ok (.getfield 27, 3) := by decide +kernel
theorem dX6_readEnd_34 : decode cX6_readEnd 34 = .ok (.invokevirtual 69, 3) := by decide +kernel
theorem dX6_readEnd_37 : decode cX6_readEnd 37 = .ok (.ireturn, 1) := by decide +kernel
theorem dX6_readEnd_38 : decode cX6_readEnd 38 = .ok (.aload_n 0, 1) := by decide +kernel
theorem dX6_readEnd_39 : decode cX6_readEnd 39 = .ok (.dup, 1) := by decide +kernel
theorem dX6_readEnd_40 : decode cX6_readEnd 40 = .ok (.getfield 27, 3) := by decide +kernel
theorem dX6_readEnd_43 : decode cX6_readEnd 43 = .ok (.iconst 1, 1) := by decide +kernel
theorem dX6_readEnd_44 : decode cX6_readEnd 44 = .ok (.iadd, 1) := by decide +kernel
theorem dX6_readEnd_45 : decode cX6_readEnd 45 = .ok (.putfield 27, 3) := by decide +kernel
theorem dX6_readEnd_48 : decode cX6_readEnd 48 = .ok (.iconst 1, 1) := by decide +kernel
theorem dX6_readEnd_49 : decode cX6_readEnd 49 = .ok (.ireturn, 1) := by decide +kernel
theorem dX6_readNumber_0 : decode cX6_readNumber 0 = .ok (.aload_n 0, 1) := by decide +kernel
theorem dX6_readNumber_1 : decode cX6_readNumber 1 = .ok (.invokevirtual 40, 3) := by decide +kernel
theorem dX6_readNumber_4 : decode cX6_readNumber 4 = .ok (.aload_n 0, 1) := by decide +kernel
theorem dX6_readNumber_5 : decode cX6_readNumber 5 = .ok (.getfield 27, 3) := by decide +kernel
theorem dX6_readNumber_8 : decode cX6_readNumber 8 = .ok (.istore_n 3, 1) := by decide +kernel
theorem dX6_readNumber_9 : decode cX6_readNumber 9 = .ok (.iconst 0, 1) := by decide +kernel
theorem dX6_readNumber_10 : decode cX6_readNumber 10 = .ok (.istore 4, 2) := by decide +kernel
theorem dX6_readNumber_12 : decode cX6_readNumber 12 = .ok (.iload_n 3, 1) := by decide +kernel
theorem dX6_readNumber_13 : decode cX6_readNumber 13 = .ok (.istore 5, 2) := by decide +kernel
theorem dX6_readNumber_15 : decode cX6_readNumber 15 = .ok (.iload 5, 2) := by decide +kernel
theorem dX6_readNumber_17 : decode cX6_readNumber 17 = .ok (.aload_n 0, 1) := by decide +kernel
theorem dX6_readNumber_18 : decode cX6_readNumber 18 = .ok (.getfield 15, 3) := by decide +kernel
theorem dX6_readNumber_21 : decode cX6_readNumber 21 = .ok (.if_icmp .ge 54, 3) := by decide +kernel
theorem dX6_readNumber_24 : decode cX6_readNumber 24 = .ok (.aload_n 0, 1) := by decide +kernel
theorem dX6_readNumber_25 : decode cX6_readNumber 25 = .ok (.getfield 9, 3) := by decide +kernel
theorem dX6_readNumber_28 : decode cX6_readNumber 28 = .ok (.iload 5, 2) := by decide +kernel
theorem dX6_readNumber_30 : decode cX6_readNumber 30 = .ok (.iaload, 1) := by decide +kernel
theorem dX6_readNumber_31 : decode cX6_readNumber 31 = .ok (.invokestatic 113, 3) := by decide +kernel
theorem dX6_readNumber_34 : decode cX6_readNumber 34 = .ok (.ifCond .eq 41, 3) := by decide +kernel
theorem dX6_readNumber_37 : decode cX6_readNumber 37 = .ok (.iload 4, 2) := by decide +kernel
theorem dX6_readNumber_39 : decode cX6_readNumber 39 = .ok (.bipush 10, 2) := by decide +kernel
theorem dX6_readNumber_41 : decode cX6_readNumber 41 = .ok (.imul, 1) := by decide +kernel
theorem dX6_readNumber_42 : decode cX6_readNumber 42 = .ok (.aload_n 0, 1) := by decide +kernel
theorem dX6_readNumber_43 : decode cX6_readNumber 43 = .ok (.getfield 9, 3) := by decide +kernel
theorem dX6_readNumber_46 : decode cX6_readNumber 46 = .ok (.iload 5, 2) := by decide +kernel
theorem dX6_readNumber_48 : decode cX6_readNumber 48 = .ok (.iaload, 1) := by decide +kernel
theorem dX6_readNumber_49 : decode cX6_readNumber 49 = .ok (.iadd, 1) := by decide +kernel
theorem dX6_readNumber_50 : decode cX6_readNumber 50 = .ok (.bipush 48, 2) := by decide +kernel
theorem dX6_readNumber_52 : decode cX6_readNumber 52 = .ok (.isub, 1) := by decide +kernel
theorem dX6_readNumber_53 : decode cX6_readNumber 53 = .ok (.sipush 1000, 3) := by decide +kernel
theorem dX6_readNumber_56 : decode cX6_readNumber 56 = .ok (.invokestatic 116, 3) := by decide +kernel
theorem dX6_readNumber_59 : decode cX6_readNumber 59 = .ok (.istore 4, 2) := by decide +kernel
theorem dX6_readNumber_61 : decode cX6_readNumber 61 = .ok (.aload_n 0, 1) := by decide +kernel
theorem dX6_readNumber_62 : decode cX6_readNumber 62 = .ok (.iload 5, 2) := by decide +kernel
theorem dX6_readNumber_64 : decode cX6_readNumber 64 = .ok (.iconst 1, 1) := by decide +kernel
theorem dX6_readNumber_65 : decode cX6_readNumber 65 = .ok (.iadd, 1) := by decide +kernel
theorem dX6_readNumber_66 : decode cX6_readNumber 66 = .ok (.putfield 27, 3) := by decide +kernel
theorem dX6_readNumber_69 : decode cX6_readNumber 69 = .ok (.iinc 5 1, 3) := by decide +kernel
theorem dX6_readNumber_72 : decode cX6_readNumber 72 = .ok (.goto (-57), 3) := by decide +kernel
theorem dX6_readNumber_75 : decode cX6_readNumber 75 = .ok (.aload_n 0, 1) := by decide +kernel
theorem dX6_readNumber_76 : decode cX6_readNumber 76 = .ok (.getfield 27, 3) := by decide +kernel
theorem dX6_readNumber_79 : decode cX6_readNumber 79 = .ok (.iload_n 3, 1) := by decide +kernel
theorem dX6_readNumber_80 : decode cX6_readNumber 80 = .ok (.isub, 1) := by decide +kernel
theorem dX6_readNumber_81 : decode cX6_readNumber 81 = .ok (.iconst 1, 1) := by decide +kernel
theorem dX6_readNumber_82 : decode cX6_readNumber 82 = .ok (.if_icmp .le 18, 3) := by decide +kernel
theorem dX6_readNumber_85 : decode cX6_readNumber 85 = .ok (.aload_n 0, 1) := by decide +kernel
theorem dX6_readNumber_86 : decode cX6_readNumber 86 = .ok (.getfield 9, 3) := by decide +kernel
theorem dX6_readNumber_89 : decode cX6_readNumber 89 = .ok (.iload_n 3, 1) := by decide +kernel
theorem dX6_readNumber_90 : decode cX6_readNumber 90 = .ok (.iaload, 1) := by decide +kernel
theorem dX6_readNumber_91 : decode cX6_readNumber 91 = .ok (.bipush 48, 2) := by decide +kernel
theorem dX6_readNumber_93 : decode cX6_readNumber 93 = .ok (.if_icmp .ne 7, 3) := by decide +kernel
theorem dX6_readNumber_96 : decode cX6_readNumber 96 = .ok (.iconst 1, 1) := by decide +kernel
theorem dX6_readNumber_97 : decode cX6_readNumber 97 = .ok (.goto 4, 3) := by decide +kernel
theorem dX6_readNumber_100 : decode cX6_readNumber 100 = .ok (.iconst 0, 1) := by decide +kernel
theorem dX6_readNumber_101 : decode cX6_readNumber 101 = .ok (.istore 5, 2) := by decide +kernel
theorem dX6_readNumber_103 : decode cX6_readNumber 103 = .ok (.aload_n 0, 1) := by decide +kernel
theorem dX6_readNumber_104 : decode cX6_readNumber 104 = .ok (.getfield 27, 3) := by decide +kernel
theorem dX6_readNumber_107 : decode cX6_readNumber 107 = .ok (.iload_n 3, 1) := by decide +kernel
theorem dX6_readNumber_108 : decode cX6_readNumber 108 = .ok (.if_icmp .eq 20, 3) := by decide +kernel
theorem dX6_readNumber_111 : decode cX6_readNumber 111 = .ok (.iload 5, 2) := by decide +kernel
theorem dX6_readNumber_113 : decode cX6_readNumber 113 = .ok (.ifCond .ne 15, 3) := by decide +kernel
theorem dX6_readNumber_116 : decode cX6_readNumber 116 = .ok (.iload 4, 2) := by decide +kernel
theorem dX6_readNumber_118 : decode cX6_readNumber 118 = .ok (.iload_n 1, 1) := by decide +kernel
theorem dX6_readNumber_119 : decode cX6_readNumber 119 = .ok (.if_icmp .lt 9, 3) := by decide +kernel
theorem dX6_readNumber_122 : decode cX6_readNumber 122 = .ok (.iload 4, 2) := by decide +kernel
theorem dX6_readNumber_124 : decode cX6_readNumber 124 = .ok (.iload_n 2, 1) := by decide +kernel
theorem dX6_readNumber_125 : decode cX6_readNumber 125 = .ok (.if_icmp .le 10, 3) := by decide +kernel
theorem dX6_readNumber_128 : decode cX6_readNumber 128 = .ok (.aload_n 0, 1) := by decide +kernel
theorem dX6_readNumber_129 : decode cX6_readNumber 129 = .ok (.iload_n 3, 1) := by decide +kernel
theorem dX6_readNumber_130 : decode cX6_readNumber 130 = .ok (.putfield 19, 3) := by decide +kernel
theorem dX6_readNumber_133 : decode cX6_readNumber 133 = .ok (.iconst (-1), 1) := by decide +kernel
theorem dX6_readNumber_134 : decode cX6_readNumber 134 = .ok (.ireturn, 1) := by decide +kernel
theorem dX6_readNumber_135 : decode cX6_readNumber 135 = .ok (.iload 4, 2) := by decide +kernel
theorem dX6_readNumber_137 : decode cX6_readNumber 137 = .ok (.ireturn, 1) := by decide +kernel
theorem dX6_skipBlanks_0 : decode cX6_skipBlanks 0 = .ok (.aload_n 0, 1) := by decide +kernel
theorem dX6_skipBlanks_1 : decode cX6_skipBlanks 1 = .ok (.getfield 27, 3) := by decide +kernel
theorem dX6_skipBlanks_4 : decode cX6_skipBlanks 4 = .ok (.istore_n 1, 1) := by decide +kernel
theorem dX6_skipBlanks_5 : decode cX6_skipBlanks 5 = .ok (.iload_n 1, 1) := by decide +kernel
theorem dX6_skipBlanks_6 : decode cX6_skipBlanks 6 = .ok (.aload_n 0, 1) := by decide +kernel
theorem dX6_skipBlanks_7 : decode cX6_skipBlanks 7 = .ok (.getfield 15, 3) := by decide +kernel
theorem dX6_skipBlanks_10 : decode cX6_skipBlanks 10 = .ok (.if_icmp .ge 27, 3) := by decide +kernel
theorem dX6_skipBlanks_13 : decode cX6_skipBlanks 13 = .ok (.aload_n 0, 1) := by decide +kernel
theorem dX6_skipBlanks_14 : decode cX6_skipBlanks 14 = .ok (.getfield 9, 3) := by decide +kernel
theorem dX6_skipBlanks_17 : decode cX6_skipBlanks 17 = .ok (.iload_n 1, 1) := by decide +kernel
theorem dX6_skipBlanks_18 : decode cX6_skipBlanks 18 = .ok (.iaload, 1) := by decide +kernel
theorem dX6_skipBlanks_19 : decode cX6_skipBlanks 19 = .ok (.bipush 32, 2) := by decide +kernel
theorem dX6_skipBlanks_21 : decode cX6_skipBlanks 21 = .ok (.if_icmp .ne 16, 3) := by decide +kernel
theorem dX6_skipBlanks_24 : decode cX6_skipBlanks 24 = .ok (.aload_n 0, 1) := by decide +kernel
theorem dX6_skipBlanks_25 : decode cX6_skipBlanks 25 = .ok (.iload_n 1, 1) := by decide +kernel
theorem dX6_skipBlanks_26 : decode cX6_skipBlanks 26 = .ok (.iconst 1, 1) := by decide +kernel
theorem dX6_skipBlanks_27 : decode cX6_skipBlanks 27 = .ok (.iadd, 1) := by decide +kernel
theorem dX6_skipBlanks_28 : decode cX6_skipBlanks 28 = .ok (.putfield 27, 3) := by decide +kernel
theorem dX6_skipBlanks_31 : decode cX6_skipBlanks 31 = .ok (.iinc 1 1, 3) := by decide +kernel
theorem dX6_skipBlanks_34 : decode cX6_skipBlanks 34 = .ok (.goto (-29), 3) := by decide +kernel
theorem dX6_skipBlanks_37 : decode cX6_skipBlanks 37 = .ok (.return_, 1) := by decide +kernel
theorem dX6_failsAt_0 : decode cX6_failsAt 0 = .ok (.aload_n 0, 1) := by decide +kernel
theorem dX6_failsAt_1 : decode cX6_failsAt 1 = .ok (.iload_n 1, 1) := by decide +kernel
theorem dX6_failsAt_2 : decode cX6_failsAt 2 = .ok (.putfield 19, 3) := by decide +kernel
theorem dX6_failsAt_5 : decode cX6_failsAt 5 = .ok (.iconst 0, 1) := by decide +kernel
theorem dX6_failsAt_6 : decode cX6_failsAt 6 = .ok (.ireturn, 1) := by decide +kernel
theorem dX6_isDigit_0 : decode cX6_isDigit 0 = .ok (.iload_n 0, 1) := by decide +kernel
theorem dX6_isDigit_1 : decode cX6_isDigit 1 = .ok (.bipush 48, 2) := by decide +kernel
theorem dX6_isDigit_3 : decode cX6_isDigit 3 = .ok (.if_icmp .lt 13, 3) := by decide +kernel
theorem dX6_isDigit_6 : decode cX6_isDigit 6 = .ok (.iload_n 0, 1) := by decide +kernel
theorem dX6_isDigit_7 : decode cX6_isDigit 7 = .ok (.bipush 57, 2) := by decide +kernel
theorem dX6_isDigit_9 : decode cX6_isDigit 9 = .ok (.if_icmp .gt 7, 3) := by decide +kernel
theorem dX6_isDigit_12 : decode cX6_isDigit 12 = .ok (.iconst 1, 1) := by decide +kernel
theorem dX6_isDigit_13 : decode cX6_isDigit 13 = .ok (.goto 4, 3) := by decide +kernel
theorem dX6_isDigit_16 : decode cX6_isDigit 16 = .ok (.iconst 0, 1) := by decide +kernel
theorem dX6_isDigit_17 : decode cX6_isDigit 17 = .ok (.ireturn, 1) := by decide +kernel
theorem dX7_init_0 : decode cX7_init 0 = .ok (.aload_n 0, 1) := by decide +kernel
theorem dX7_init_1 : decode cX7_init 1 = .ok (.invokespecial 3, 3) := by decide +kernel
theorem dX7_init_4 : decode cX7_init 4 = .ok (.aload_n 0, 1) := by decide +kernel
theorem dX7_init_5 : decode cX7_init 5 = .ok (.iconst 5, 1) := by decide +kernel
theorem dX7_init_6 : decode cX7_init 6 = .ok (.newarray .int, 2) := by decide +kernel
theorem dX7_init_8 : decode cX7_init 8 = .ok (.putfield 9, 3) := by decide +kernel
theorem dX7_init_11 : decode cX7_init 11 = .ok (.aload_n 0, 1) := by decide +kernel
theorem dX7_init_12 : decode cX7_init 12 = .ok (.iconst 5, 1) := by decide +kernel
theorem dX7_init_13 : decode cX7_init 13 = .ok (.newarray .int, 2) := by decide +kernel
theorem dX7_init_15 : decode cX7_init 15 = .ok (.putfield 15, 3) := by decide +kernel
theorem dX7_init_18 : decode cX7_init 18 = .ok (.aload_n 0, 1) := by decide +kernel
theorem dX7_init_19 : decode cX7_init 19 = .ok (.bipush (-9), 2) := by decide +kernel
theorem dX7_init_21 : decode cX7_init 21 = .ok (.putfield 18, 3) := by decide +kernel
theorem dX7_init_24 : decode cX7_init 24 = .ok (.aload_n 0, 1) := by decide +kernel
theorem dX7_init_25 : decode cX7_init 25 = .ok (.bipush (-9), 2) := by decide +kernel
theorem dX7_init_27 : decode cX7_init 27 = .ok (.putfield 22, 3) := by decide +kernel
theorem dX7_init_30 : decode cX7_init 30 = .ok (.return_, 1) := by decide +kernel
theorem dX7_beginIn_0 : decode cX7_beginIn 0 = .ok (.aload_n 0, 1) := by decide +kernel
theorem dX7_beginIn_1 : decode cX7_beginIn 1 = .ok (.bipush (-9), 2) := by decide +kernel
theorem dX7_beginIn_3 : decode cX7_beginIn 3 = .ok (.putfield 18, 3) := by decide +kernel
theorem dX7_beginIn_6 : decode cX7_beginIn 6 = .ok (.aload_n 0, 1) := by decide +kernel
theorem dX7_beginIn_7 : decode cX7_beginIn 7 = .ok (.bipush (-9), 2) := by decide +kernel
theorem dX7_beginIn_9 : decode cX7_beginIn 9 = .ok (.putfield 22, 3) := by decide +kernel
theorem dX7_beginIn_12 : decode cX7_beginIn 12 = .ok (.aload_n 0, 1) := by decide +kernel
theorem dX7_beginIn_13 : decode cX7_beginIn 13 = .ok (.iconst 0, 1) := by decide +kernel
theorem dX7_beginIn_14 : decode cX7_beginIn 14 = .ok (.putfield 25, 3) := by decide +kernel
theorem dX7_beginIn_17 : decode cX7_beginIn 17 = .ok (.aload_n 0, 1) := by decide +kernel
theorem dX7_beginIn_18 : decode cX7_beginIn 18 = .ok (.iconst 0, 1) := by decide +kernel
theorem dX7_beginIn_19 : decode cX7_beginIn 19 = .ok (.putfield 28, 3) := by decide +kernel
theorem dX7_beginIn_22 : decode cX7_beginIn 22 = .ok (.aload_n 0, 1) := by decide +kernel
theorem dX7_beginIn_23 : decode cX7_beginIn 23 = .ok (.iconst 0, 1) := by decide +kernel
theorem dX7_beginIn_24 : decode cX7_beginIn 24 = .ok (.putfield 31, 3) := by decide +kernel
theorem dX7_beginIn_27 : decode cX7_beginIn 27 = .ok (.aload_n 1, 1) := by decide +kernel
theorem dX7_beginIn_28 : decode cX7_beginIn 28 = .ok (.getfield 34, 3) := by decide +kernel
theorem dX7_beginIn_31 : decode cX7_beginIn 31 = .ok (.iconst 0, 1) := by decide +kernel
theorem dX7_beginIn_32 : decode cX7_beginIn 32 = .ok (.aload_n 0, 1) := by decide +kernel
theorem dX7_beginIn_33 : decode cX7_beginIn 33 = .ok (.getfield 9, 3) := by decide +kernel
theorem dX7_beginIn_36 : decode cX7_beginIn 36 = .ok (.iconst 0, 1) := by decide +kernel
theorem dX7_beginIn_37 : decode cX7_beginIn 37 = .ok (.iconst 5, 1) := by decide +kernel
theorem dX7_beginIn_38 : decode cX7_beginIn 38 = .ok (.invokestatic 37, 3) := by decide +kernel
theorem dX7_beginIn_41 : decode cX7_beginIn 41 = .ok (.aload_n 0, 1) := by decide +kernel
theorem dX7_beginIn_42 : decode cX7_beginIn 42 = .ok (.getfield 15, 3) := by decide +kernel
theorem dX7_beginIn_45 : decode cX7_beginIn 45 = .ok (.bipush (-9), 2) := by decide +kernel
theorem dX7_beginIn_47 : decode cX7_beginIn 47 = .ok (.invokestatic 43, 3) := by decide +kernel
theorem dX7_beginIn_50 : decode cX7_beginIn 50 = .ok (.return_, 1) := by decide +kernel
theorem dX7_copyOf_0 : decode cX7_copyOf 0 = .ok (.aload_n 0, 1) := by decide +kernel
theorem dX7_copyOf_1 : decode cX7_copyOf 1 = .ok (.aload_n 1, 1) := by decide +kernel
theorem dX7_copyOf_2 : decode cX7_copyOf 2 = .ok (.getfield 18, 3) := by decide +kernel
theorem dX7_copyOf_5 : decode cX7_copyOf 5 = .ok (.putfield 18, 3) := by decide +kernel
theorem dX7_copyOf_8 : decode cX7_copyOf 8 = .ok (.aload_n 0, 1) := by decide +kernel
theorem dX7_copyOf_9 : decode cX7_copyOf 9 = .ok (.aload_n 1, 1) := by decide +kernel
theorem dX7_copyOf_10 : decode cX7_copyOf 10 = .ok (.getfield 22, 3) := by decide +kernel
theorem dX7_copyOf_13 : decode cX7_copyOf 13 = .ok (.putfield 22, 3) := by decide +kernel
theorem dX7_copyOf_16 : decode cX7_copyOf 16 = .ok (.aload_n 0, 1) := by decide +kernel
theorem dX7_copyOf_17 : decode cX7_copyOf 17 = .ok (.aload_n 1, 1) := by decide +kernel
theorem dX7_copyOf_18 : decode cX7_copyOf 18 = .ok (.getfield 25, 3) := by decide +kernel
theorem dX7_copyOf_21 : decode cX7_copyOf 21 = .ok (.putfield 25, 3) := by decide +kernel
theorem dX7_copyOf_24 : decode cX7_copyOf 24 = .ok (.aload_n 0, 1) := by decide +kernel
theorem dX7_copyOf_25 : decode cX7_copyOf 25 = .ok (.aload_n 1, 1) := by decide +kernel
theorem dX7_copyOf_26 : decode cX7_copyOf 26 = .ok (.getfield 28, 3) := by decide +kernel
theorem dX7_copyOf_29 : decode cX7_copyOf 29 = .ok (.putfield 28, 3) := by decide +kernel
theorem dX7_copyOf_32 : decode cX7_copyOf 32 = .ok (.aload_n 0, 1) := by decide +kernel
theorem dX7_copyOf_33 : decode cX7_copyOf 33 = .ok (.aload_n 1, 1) := by decide +kernel
theorem dX7_copyOf_34 : decode cX7_copyOf 34 = .ok (.getfield 31, 3) := by decide +kernel
theorem dX7_copyOf_37 : decode cX7_copyOf 37 = .ok (.putfield 31, 3) := by decide +kernel
theorem dX7_copyOf_40 : decode cX7_copyOf 40 = .ok (.aload_n 1, 1) := by decide +kernel
theorem dX7_copyOf_41 : decode cX7_copyOf 41 = .ok (.getfield 9, 3) := by decide +kernel
theorem dX7_copyOf_44 : decode cX7_copyOf 44 = .ok (.iconst 0, 1) := by decide +kernel
theorem dX7_copyOf_45 : decode cX7_copyOf 45 = .ok (.aload_n 0, 1) := by decide +kernel
theorem dX7_copyOf_46 : decode cX7_copyOf 46 = .ok (.getfield 9, 3) := by decide +kernel
theorem dX7_copyOf_49 : decode cX7_copyOf 49 = .ok (.iconst 0, 1) := by decide +kernel
theorem dX7_copyOf_50 : decode cX7_copyOf 50 = .ok (.iconst 5, 1) := by decide +kernel
theorem dX7_copyOf_51 : decode cX7_copyOf 51 = .ok (.invokestatic 37, 3) := by decide +kernel
theorem dX7_copyOf_54 : decode cX7_copyOf 54 = .ok (.aload_n 1, 1) := by decide +kernel
theorem dX7_copyOf_55 : decode cX7_copyOf 55 = .ok (.getfield 15, 3) := by decide +kernel
theorem dX7_copyOf_58 : decode cX7_copyOf 58 = .ok (.iconst 0, 1) := by decide +kernel
theorem dX7_copyOf_59 : decode cX7_copyOf 59 = .ok (.aload_n 0, 1) := by decide +kernel
theorem dX7_copyOf_60 : decode cX7_copyOf 60 = .ok (.getfield 15, 3) := by decide +kernel
theorem dX7_copyOf_63 : decode cX7_copyOf 63 = .ok (.iconst 0, 1) := by decide +kernel
theorem dX7_copyOf_64 : decode cX7_copyOf 64 = .ok (.iconst 5, 1) := by decide +kernel
theorem dX7_copyOf_65 : decode cX7_copyOf 65 = .ok (.invokestatic 37, 3) := by decide +kernel
theorem dX7_copyOf_68 : decode cX7_copyOf 68 = .ok (.return_, 1) := by decide +kernel
theorem dX7_isSolved_0 : decode cX7_isSolved 0 = .ok (.aload_n 0, 1) := by decide +kernel
theorem dX7_isSolved_1 : decode cX7_isSolved 1 = .ok (.getfield 28, 3) := by decide +kernel
theorem dX7_isSolved_4 : decode cX7_isSolved 4 = .ok (.iload_n 1, 1) := by decide +kernel
theorem dX7_isSolved_5 : decode cX7_isSolved 5 = .ok (.ishr, 1) := by decide +kernel
theorem dX7_isSolved_6 : decode cX7_isSolved 6 = .ok (.iconst 1, 1) := by decide +kernel
theorem dX7_isSolved_7 : decode cX7_isSolved 7 = .ok (.iand, 1) := by decide +kernel
theorem dX7_isSolved_8 : decode cX7_isSolved 8 = .ok (.iconst 1, 1) := by decide +kernel
theorem dX7_isSolved_9 : decode cX7_isSolved 9 = .ok (.if_icmp .ne 7, 3) := by decide +kernel
theorem dX7_isSolved_12 : decode cX7_isSolved 12 = .ok (.iconst 1, 1) := by decide +kernel
theorem dX7_isSolved_13 : decode cX7_isSolved 13 = .ok (.goto 4, 3) := by decide +kernel
theorem dX7_isSolved_16 : decode cX7_isSolved 16 = .ok (.iconst 0, 1) := by decide +kernel
theorem dX7_isSolved_17 : decode cX7_isSolved 17 = .ok (.ireturn, 1) := by decide +kernel
theorem dX7_earnedIn_0 : decode cX7_earnedIn 0 = .ok (.iconst 0, 1) := by decide +kernel
theorem dX7_earnedIn_1 : decode cX7_earnedIn 1 = .ok (.istore_n 2, 1) := by decide +kernel
theorem dX7_earnedIn_2 : decode cX7_earnedIn 2 = .ok (.iconst 0, 1) := by decide +kernel
theorem dX7_earnedIn_3 : decode cX7_earnedIn 3 = .ok (.istore_n 3, 1) := by decide +kernel
theorem dX7_earnedIn_4 : decode cX7_earnedIn 4 = .ok (.iload_n 3, 1) := by decide +kernel
theorem dX7_earnedIn_5 : decode cX7_earnedIn 5 = .ok (.aload_n 1, 1) := by decide +kernel
theorem dX7_earnedIn_6 : decode cX7_earnedIn 6 = .ok (.getfield 49, 3) := by decide +kernel
theorem dX7_earnedIn_9 : decode cX7_earnedIn 9 = .ok (.if_icmp .ge 26, 3) := by decide +kernel
theorem dX7_earnedIn_12 : decode cX7_earnedIn 12 = .ok (.aload_n 0, 1) := by decide +kernel
theorem dX7_earnedIn_13 : decode cX7_earnedIn 13 = .ok (.iload_n 3, 1) := by decide +kernel
theorem dX7_earnedIn_14 : decode cX7_earnedIn 14 = .ok (.invokevirtual 52, 3) := by decide +kernel
theorem dX7_earnedIn_17 : decode cX7_earnedIn 17 = .ok (.ifCond .eq 12, 3) := by decide +kernel
theorem dX7_earnedIn_20 : decode cX7_earnedIn 20 = .ok (.iload_n 2, 1) := by decide +kernel
theorem dX7_earnedIn_21 : decode cX7_earnedIn 21 = .ok (.aload_n 1, 1) := by decide +kernel
theorem dX7_earnedIn_22 : decode cX7_earnedIn 22 = .ok (.getfield 56, 3) := by decide +kernel
theorem dX7_earnedIn_25 : decode cX7_earnedIn 25 = .ok (.iload_n 3, 1) := by decide +kernel
theorem dX7_earnedIn_26 : decode cX7_earnedIn 26 = .ok (.iaload, 1) := by decide +kernel
theorem dX7_earnedIn_27 : decode cX7_earnedIn 27 = .ok (.iadd, 1) := by decide +kernel
theorem dX7_earnedIn_28 : decode cX7_earnedIn 28 = .ok (.istore_n 2, 1) := by decide +kernel
theorem dX7_earnedIn_29 : decode cX7_earnedIn 29 = .ok (.iinc 3 1, 3) := by decide +kernel
theorem dX7_earnedIn_32 : decode cX7_earnedIn 32 = .ok (.goto (-28), 3) := by decide +kernel
end
section
theorem dX7_earnedIn_35 : decode cX7_earnedIn 35 = .ok (.iload_n 2, 1) := by decide +kernel
theorem dX7_earnedIn_36 : decode cX7_earnedIn 36 = .ok (.ireturn, 1) := by decide +kernel
theorem dX7_takeDoing_0 : decode cX7_takeDoing 0 = .ok (.aload_n 0, 1) := by decide +kernel
theorem dX7_takeDoing_1 : decode cX7_takeDoing 1 = .ok (.dup, 1) := by decide +kernel
theorem dX7_takeDoing_2 : decode cX7_takeDoing 2 = .ok (.getfield 25, 3) := by decide +kernel
theorem dX7_takeDoing_5 : decode cX7_takeDoing 5 = .ok (.aload_n 1, 1) := by decide +kernel
theorem dX7_takeDoing_6 : decode cX7_takeDoing 6 = .ok (.getfield 59, 3) := by decide +kernel
theorem dX7_takeDoing_9 : decode cX7_takeDoing 9 = .ok (.iload_n 3, 1) := by decide +kernel
theorem dX7_takeDoing_10 : decode cX7_takeDoing 10 = .ok (.iaload, 1) := by decide +kernel
theorem dX7_takeDoing_11 : decode cX7_takeDoing 11 = .ok (.iadd, 1) := by decide +kernel
theorem dX7_takeDoing_12 : decode cX7_takeDoing 12 = .ok (.putfield 25, 3) := by decide +kernel
theorem dX7_takeDoing_15 : decode cX7_takeDoing 15 = .ok (.aload_n 0, 1) := by decide +kernel
theorem dX7_takeDoing_16 : decode cX7_takeDoing 16 = .ok (.getfield 9, 3) := by decide +kernel
theorem dX7_takeDoing_19 : decode cX7_takeDoing 19 = .ok (.iload_n 2, 1) := by decide +kernel
theorem dX7_takeDoing_20 : decode cX7_takeDoing 20 = .ok (.dup2, 1) := by decide +kernel
theorem dX7_takeDoing_21 : decode cX7_takeDoing 21 = .ok (.iaload, 1) := by decide +kernel
theorem dX7_takeDoing_22 : decode cX7_takeDoing 22 = .ok (.aload_n 1, 1) := by decide +kernel
theorem dX7_takeDoing_23 : decode cX7_takeDoing 23 = .ok (.iload_n 2, 1) := by decide +kernel
theorem dX7_takeDoing_24 : decode cX7_takeDoing 24 = .ok (.iload_n 3, 1) := by decide +kernel
theorem dX7_takeDoing_25 : decode cX7_takeDoing 25 = .ok (.invokevirtual 62, 3) := by decide +kernel
theorem dX7_takeDoing_28 : decode cX7_takeDoing 28 = .ok (.aload_n 0, 1) := by decide +kernel
theorem dX7_takeDoing_29 : decode cX7_takeDoing 29 = .ok (.getfield 15, 3) := by decide +kernel
theorem dX7_takeDoing_32 : decode cX7_takeDoing 32 = .ok (.iload_n 2, 1) := by decide +kernel
theorem dX7_takeDoing_33 : decode cX7_takeDoing 33 = .ok (.iaload, 1) := by decide +kernel
theorem dX7_takeDoing_34 : decode cX7_takeDoing 34 = .ok (.iload_n 3, 1) := by decide +kernel
theorem dX7_takeDoing_35 : decode cX7_takeDoing 35 = .ok (.if_icmp .ne 7, 3) := by decide +kernel
theorem dX7_takeDoing_38 : decode cX7_takeDoing 38 = .ok (.iconst 1, 1) := by decide +kernel
theorem dX7_takeDoing_39 : decode cX7_takeDoing 39 = .ok (.goto 4, 3) := by decide +kernel
theorem dX7_takeDoing_42 : decode cX7_takeDoing 42 = .ok (.iconst 0, 1) := by decide +kernel
theorem dX7_takeDoing_43 : decode cX7_takeDoing 43 = .ok (.invokestatic 66, 3) := by decide +kernel
theorem dX7_takeDoing_46 : decode cX7_takeDoing 46 = .ok (.isub, 1) := by decide +kernel
theorem dX7_takeDoing_47 : decode cX7_takeDoing 47 = .ok (.iastore, 1) := by decide +kernel
theorem dX7_takeDoing_48 : decode cX7_takeDoing 48 = .ok (.aload_n 0, 1) := by decide +kernel
theorem dX7_takeDoing_49 : decode cX7_takeDoing 49 = .ok (.getfield 15, 3) := by decide +kernel
theorem dX7_takeDoing_52 : decode cX7_takeDoing 52 = .ok (.iload_n 2, 1) := by decide +kernel
theorem dX7_takeDoing_53 : decode cX7_takeDoing 53 = .ok (.iload_n 3, 1) := by decide +kernel
theorem dX7_takeDoing_54 : decode cX7_takeDoing 54 = .ok (.iastore, 1) := by decide +kernel
theorem dX7_takeDoing_55 : decode cX7_takeDoing 55 = .ok (.aload_n 0, 1) := by decide +kernel
theorem dX7_takeDoing_56 : decode cX7_takeDoing 56 = .ok (.getfield 9, 3) := by decide +kernel
theorem dX7_takeDoing_59 : decode cX7_takeDoing 59 = .ok (.iload_n 2, 1) := by decide +kernel
theorem dX7_takeDoing_60 : decode cX7_takeDoing 60 = .ok (.iaload, 1) := by decide +kernel
theorem dX7_takeDoing_61 : decode cX7_takeDoing 61 = .ok (.ifCond .ge 21, 3) := by decide +kernel
theorem dX7_takeDoing_64 : decode cX7_takeDoing 64 = .ok (.aload_n 0, 1) := by decide +kernel
theorem dX7_takeDoing_65 : decode cX7_takeDoing 65 = .ok (.dup, 1) := by decide +kernel
theorem dX7_takeDoing_66 : decode cX7_takeDoing 66 = .ok (.getfield 28, 3) := by decide +kernel
theorem dX7_takeDoing_69 : decode cX7_takeDoing 69 = .ok (.iconst 1, 1) := by decide +kernel
theorem dX7_takeDoing_70 : decode cX7_takeDoing 70 = .ok (.iload_n 2, 1) := by decide +kernel
theorem dX7_takeDoing_71 : decode cX7_takeDoing 71 = .ok (.ishl, 1) := by decide +kernel
theorem dX7_takeDoing_72 : decode cX7_takeDoing 72 = .ok (.ior, 1) := by decide +kernel
theorem dX7_takeDoing_73 : decode cX7_takeDoing 73 = .ok (.putfield 28, 3) := by decide +kernel
theorem dX7_takeDoing_76 : decode cX7_takeDoing 76 = .ok (.aload_n 0, 1) := by decide +kernel
theorem dX7_takeDoing_77 : decode cX7_takeDoing 77 = .ok (.bipush (-9), 2) := by decide +kernel
theorem dX7_takeDoing_79 : decode cX7_takeDoing 79 = .ok (.putfield 18, 3) := by decide +kernel
theorem dX7_takeDoing_82 : decode cX7_takeDoing 82 = .ok (.return_, 1) := by decide +kernel
theorem dX8_init_0 : decode cX8_init 0 = .ok (.aload_n 0, 1) := by decide +kernel
theorem dX8_init_1 : decode cX8_init 1 = .ok (.invokespecial 1, 3) := by decide +kernel
theorem dX8_init_4 : decode cX8_init 4 = .ok (.aload_n 0, 1) := by decide +kernel
theorem dX8_init_5 : decode cX8_init 5 = .ok (.new 7, 3) := by decide +kernel
theorem dX8_init_8 : decode cX8_init 8 = .ok (.dup, 1) := by decide +kernel
theorem dX8_init_9 : decode cX8_init 9 = .ok (.invokespecial 9, 3) := by decide +kernel
theorem dX8_init_12 : decode cX8_init 12 = .ok (.putfield 10, 3) := by decide +kernel
theorem dX8_init_15 : decode cX8_init 15 = .ok (.aload_n 0, 1) := by decide +kernel
theorem dX8_init_16 : decode cX8_init 16 = .ok (.new 16, 3) := by decide +kernel
theorem dX8_init_19 : decode cX8_init 19 = .ok (.dup, 1) := by decide +kernel
theorem dX8_init_20 : decode cX8_init 20 = .ok (.invokespecial 18, 3) := by decide +kernel
theorem dX8_init_23 : decode cX8_init 23 = .ok (.putfield 19, 3) := by decide +kernel
theorem dX8_init_26 : decode cX8_init 26 = .ok (.aload_n 0, 1) := by decide +kernel
theorem dX8_init_27 : decode cX8_init 27 = .ok (.new 16, 3) := by decide +kernel
theorem dX8_init_30 : decode cX8_init 30 = .ok (.dup, 1) := by decide +kernel
theorem dX8_init_31 : decode cX8_init 31 = .ok (.invokespecial 18, 3) := by decide +kernel
theorem dX8_init_34 : decode cX8_init 34 = .ok (.putfield 23, 3) := by decide +kernel
theorem dX8_init_37 : decode cX8_init 37 = .ok (.aload_n 0, 1) := by decide +kernel
theorem dX8_init_38 : decode cX8_init 38 = .ok (.new 26, 3) := by decide +kernel
theorem dX8_init_41 : decode cX8_init 41 = .ok (.dup, 1) := by decide +kernel
theorem dX8_init_42 : decode cX8_init 42 = .ok (.invokespecial 28, 3) := by decide +kernel
theorem dX8_init_45 : decode cX8_init 45 = .ok (.putfield 29, 3) := by decide +kernel
theorem dX8_init_48 : decode cX8_init 48 = .ok (.aload_n 0, 1) := by decide +kernel
theorem dX8_init_49 : decode cX8_init 49 = .ok (.new 33, 3) := by decide +kernel
theorem dX8_init_52 : decode cX8_init 52 = .ok (.dup, 1) := by decide +kernel
theorem dX8_init_53 : decode cX8_init 53 = .ok (.invokespecial 35, 3) := by decide +kernel
theorem dX8_init_56 : decode cX8_init 56 = .ok (.putfield 36, 3) := by decide +kernel
theorem dX8_init_59 : decode cX8_init 59 = .ok (.aload_n 0, 1) := by decide +kernel
theorem dX8_init_60 : decode cX8_init 60 = .ok (.iconst 2, 1) := by decide +kernel
theorem dX8_init_61 : decode cX8_init 61 = .ok (.anewarray 26, 3) := by decide +kernel
theorem dX8_init_64 : decode cX8_init 64 = .ok (.putfield 40, 3) := by decide +kernel
theorem dX8_init_67 : decode cX8_init 67 = .ok (.iconst 0, 1) := by decide +kernel
theorem dX8_init_68 : decode cX8_init 68 = .ok (.istore_n 1, 1) := by decide +kernel
theorem dX8_init_69 : decode cX8_init 69 = .ok (.iload_n 1, 1) := by decide +kernel
theorem dX8_init_70 : decode cX8_init 70 = .ok (.iconst 2, 1) := by decide +kernel
theorem dX8_init_71 : decode cX8_init 71 = .ok (.if_icmp .ge 22, 3) := by decide +kernel
theorem dX8_init_74 : decode cX8_init 74 = .ok (.aload_n 0, 1) := by decide +kernel
theorem dX8_init_75 : decode cX8_init 75 = .ok (.getfield 40, 3) := by decide +kernel
theorem dX8_init_78 : decode cX8_init 78 = .ok (.iload_n 1, 1) := by decide +kernel
theorem dX8_init_79 : decode cX8_init 79 = .ok (.new 26, 3) := by decide +kernel
theorem dX8_init_82 : decode cX8_init 82 = .ok (.dup, 1) := by decide +kernel
theorem dX8_init_83 : decode cX8_init 83 = .ok (.invokespecial 28, 3) := by decide +kernel
theorem dX8_init_86 : decode cX8_init 86 = .ok (.aastore, 1) := by decide +kernel
theorem dX8_init_87 : decode cX8_init 87 = .ok (.iinc 1 1, 3) := by decide +kernel
theorem dX8_init_90 : decode cX8_init 90 = .ok (.goto (-21), 3) := by decide +kernel
theorem dX8_init_93 : decode cX8_init 93 = .ok (.aload_n 0, 1) := by decide +kernel
theorem dX8_init_94 : decode cX8_init 94 = .ok (.iconst 0, 1) := by decide +kernel
theorem dX8_init_95 : decode cX8_init 95 = .ok (.putfield 44, 3) := by decide +kernel
theorem dX8_init_98 : decode cX8_init 98 = .ok (.aload_n 0, 1) := by decide +kernel
theorem dX8_init_99 : decode cX8_init 99 = .ok (.new 48, 3) := by decide +kernel
theorem dX8_init_102 : decode cX8_init 102 = .ok (.dup, 1) := by decide +kernel
theorem dX8_init_103 : decode cX8_init 103 = .ok (.invokespecial 50, 3) := by decide +kernel
theorem dX8_init_106 : decode cX8_init 106 = .ok (.putfield 51, 3) := by decide +kernel
theorem dX8_init_109 : decode cX8_init 109 = .ok (.aload_n 0, 1) := by decide +kernel
theorem dX8_init_110 : decode cX8_init 110 = .ok (.new 55, 3) := by decide +kernel
theorem dX8_init_113 : decode cX8_init 113 = .ok (.dup, 1) := by decide +kernel
theorem dX8_init_114 : decode cX8_init 114 = .ok (.invokespecial 57, 3) := by decide +kernel
theorem dX8_init_117 : decode cX8_init 117 = .ok (.putfield 58, 3) := by decide +kernel
theorem dX8_init_120 : decode cX8_init 120 = .ok (.aload_n 0, 1) := by decide +kernel
theorem dX8_init_121 : decode cX8_init 121 = .ok (.new 62, 3) := by decide +kernel
theorem dX8_init_124 : decode cX8_init 124 = .ok (.dup, 1) := by decide +kernel
theorem dX8_init_125 : decode cX8_init 125 = .ok (.invokespecial 64, 3) := by decide +kernel
theorem dX8_init_128 : decode cX8_init 128 = .ok (.putfield 65, 3) := by decide +kernel
theorem dX8_init_131 : decode cX8_init 131 = .ok (.aload_n 0, 1) := by decide +kernel
theorem dX8_init_132 : decode cX8_init 132 = .ok (.new 69, 3) := by decide +kernel
theorem dX8_init_135 : decode cX8_init 135 = .ok (.dup, 1) := by decide +kernel
theorem dX8_init_136 : decode cX8_init 136 = .ok (.invokespecial 71, 3) := by decide +kernel
theorem dX8_init_139 : decode cX8_init 139 = .ok (.putfield 72, 3) := by decide +kernel
theorem dX8_init_142 : decode cX8_init 142 = .ok (.aload_n 0, 1) := by decide +kernel
theorem dX8_init_143 : decode cX8_init 143 = .ok (.bipush 7, 2) := by decide +kernel
theorem dX8_init_145 : decode cX8_init 145 = .ok (.newarray .int, 2) := by decide +kernel
theorem dX8_init_147 : decode cX8_init 147 = .ok (.putfield 76, 3) := by decide +kernel
theorem dX8_init_150 : decode cX8_init 150 = .ok (.aload_n 0, 1) := by decide +kernel
theorem dX8_init_151 : decode cX8_init 151 = .ok (.lconst 0, 1) := by decide +kernel
theorem dX8_init_152 : decode cX8_init 152 = .ok (.putfield 80, 3) := by decide +kernel
theorem dX8_init_155 : decode cX8_init 155 = .ok (.return_, 1) := by decide +kernel
theorem dX8_type_0 : decode cX8_type 0 = .ok (.iload_n 1, 1) := by decide +kernel
theorem dX8_type_1 : decode cX8_type 1 = .ok (.ifCond .lt 10, 3) := by decide +kernel
theorem dX8_type_4 : decode cX8_type 4 = .ok (.iload_n 1, 1) := by decide +kernel
theorem dX8_type_5 : decode cX8_type 5 = .ok (.sipush 255, 3) := by decide +kernel
theorem dX8_type_8 : decode cX8_type 8 = .ok (.if_icmp .le 5, 3) := by decide +kernel
theorem dX8_type_11 : decode cX8_type 11 = .ok (.iconst (-1), 1) := by decide +kernel
theorem dX8_type_12 : decode cX8_type 12 = .ok (.ireturn, 1) := by decide +kernel
theorem dX8_type_13 : decode cX8_type 13 = .ok (.aload_n 0, 1) := by decide +kernel
theorem dX8_type_14 : decode cX8_type 14 = .ok (.getfield 10, 3) := by decide +kernel
theorem dX8_type_17 : decode cX8_type 17 = .ok (.getfield 84, 3) := by decide +kernel
theorem dX8_type_20 : decode cX8_type 20 = .ok (.sipush 200, 3) := by decide +kernel
theorem dX8_type_23 : decode cX8_type 23 = .ok (.if_icmp .lt 6, 3) := by decide +kernel
theorem dX8_type_26 : decode cX8_type 26 = .ok (.bipush (-3), 2) := by decide +kernel
theorem dX8_type_28 : decode cX8_type 28 = .ok (.ireturn, 1) := by decide +kernel
theorem dX8_type_29 : decode cX8_type 29 = .ok (.aload_n 0, 1) := by decide +kernel
theorem dX8_type_30 : decode cX8_type 30 = .ok (.getfield 10, 3) := by decide +kernel
theorem dX8_type_33 : decode cX8_type 33 = .ok (.iload_n 1, 1) := by decide +kernel
theorem dX8_type_34 : decode cX8_type 34 = .ok (.invokevirtual 87, 3) := by decide +kernel
theorem dX8_type_37 : decode cX8_type 37 = .ok (.aload_n 0, 1) := by decide +kernel
theorem dX8_type_38 : decode cX8_type 38 = .ok (.getfield 10, 3) := by decide +kernel
theorem dX8_type_41 : decode cX8_type 41 = .ok (.getfield 84, 3) := by decide +kernel
theorem dX8_type_44 : decode cX8_type 44 = .ok (.ireturn, 1) := by decide +kernel
theorem dX8_clear_0 : decode cX8_clear 0 = .ok (.aload_n 0, 1) := by decide +kernel
theorem dX8_clear_1 : decode cX8_clear 1 = .ok (.getfield 10, 3) := by decide +kernel
theorem dX8_clear_4 : decode cX8_clear 4 = .ok (.getfield 84, 3) := by decide +kernel
theorem dX8_clear_7 : decode cX8_clear 7 = .ok (.istore_n 1, 1) := by decide +kernel
theorem dX8_clear_8 : decode cX8_clear 8 = .ok (.aload_n 0, 1) := by decide +kernel
theorem dX8_clear_9 : decode cX8_clear 9 = .ok (.getfield 10, 3) := by decide +kernel
theorem dX8_clear_12 : decode cX8_clear 12 = .ok (.iconst 0, 1) := by decide +kernel
theorem dX8_clear_13 : decode cX8_clear 13 = .ok (.putfield 84, 3) := by decide +kernel
theorem dX8_clear_16 : decode cX8_clear 16 = .ok (.iload_n 1, 1) := by decide +kernel
theorem dX8_clear_17 : decode cX8_clear 17 = .ok (.ireturn, 1) := by decide +kernel
theorem dX8_house_0 : decode cX8_house 0 = .ok (.aload_n 0, 1) := by decide +kernel
theorem dX8_house_1 : decode cX8_house 1 = .ok (.getfield 10, 3) := by decide +kernel
theorem dX8_house_4 : decode cX8_house 4 = .ok (.aload_n 0, 1) := by decide +kernel
theorem dX8_house_5 : decode cX8_house 5 = .ok (.getfield 23, 3) := by decide +kernel
theorem dX8_house_8 : decode cX8_house 8 = .ok (.invokevirtual 91, 3) := by decide +kernel
theorem dX8_house_11 : decode cX8_house 11 = .ok (.istore_n 1, 1) := by decide +kernel
theorem dX8_house_12 : decode cX8_house 12 = .ok (.iload_n 1, 1) := by decide +kernel
theorem dX8_house_13 : decode cX8_house 13 = .ok (.ifCond .ge 14, 3) := by decide +kernel
theorem dX8_house_16 : decode cX8_house 16 = .ok (.bipush (-10), 2) := by decide +kernel
theorem dX8_house_18 : decode cX8_house 18 = .ok (.aload_n 0, 1) := by decide +kernel
theorem dX8_house_19 : decode cX8_house 19 = .ok (.getfield 10, 3) := by decide +kernel
theorem dX8_house_22 : decode cX8_house 22 = .ok (.getfield 95, 3) := by decide +kernel
theorem dX8_house_25 : decode cX8_house 25 = .ok (.isub, 1) := by decide +kernel
theorem dX8_house_26 : decode cX8_house 26 = .ok (.ireturn, 1) := by decide +kernel
theorem dX8_house_27 : decode cX8_house 27 = .ok (.aload_n 0, 1) := by decide +kernel
theorem dX8_house_28 : decode cX8_house 28 = .ok (.getfield 19, 3) := by decide +kernel
theorem dX8_house_31 : decode cX8_house 31 = .ok (.astore_n 2, 1) := by decide +kernel
theorem dX8_house_32 : decode cX8_house 32 = .ok (.aload_n 0, 1) := by decide +kernel
theorem dX8_house_33 : decode cX8_house 33 = .ok (.aload_n 0, 1) := by decide +kernel
theorem dX8_house_34 : decode cX8_house 34 = .ok (.getfield 23, 3) := by decide +kernel
theorem dX8_house_37 : decode cX8_house 37 = .ok (.putfield 19, 3) := by decide +kernel
theorem dX8_house_40 : decode cX8_house 40 = .ok (.aload_n 0, 1) := by decide +kernel
theorem dX8_house_41 : decode cX8_house 41 = .ok (.aload_n 2, 1) := by decide +kernel
theorem dX8_house_42 : decode cX8_house 42 = .ok (.putfield 23, 3) := by decide +kernel
theorem dX8_house_45 : decode cX8_house 45 = .ok (.aload_n 0, 1) := by decide +kernel
theorem dX8_house_46 : decode cX8_house 46 = .ok (.getfield 10, 3) := by decide +kernel
theorem dX8_house_49 : decode cX8_house 49 = .ok (.iconst 0, 1) := by decide +kernel
theorem dX8_house_50 : decode cX8_house 50 = .ok (.putfield 84, 3) := by decide +kernel
theorem dX8_house_53 : decode cX8_house 53 = .ok (.aload_n 0, 1) := by decide +kernel
theorem dX8_house_54 : decode cX8_house 54 = .ok (.getfield 29, 3) := by decide +kernel
theorem dX8_house_57 : decode cX8_house 57 = .ok (.aload_n 0, 1) := by decide +kernel
theorem dX8_house_58 : decode cX8_house 58 = .ok (.getfield 19, 3) := by decide +kernel
theorem dX8_house_61 : decode cX8_house 61 = .ok (.invokevirtual 98, 3) := by decide +kernel
theorem dX8_house_64 : decode cX8_house 64 = .ok (.aload_n 0, 1) := by decide +kernel
theorem dX8_house_65 : decode cX8_house 65 = .ok (.getfield 36, 3) := by decide +kernel
theorem dX8_house_68 : decode cX8_house 68 = .ok (.invokevirtual 102, 3) := by decide +kernel
theorem dX8_house_71 : decode cX8_house 71 = .ok (.aload_n 0, 1) := by decide +kernel
theorem dX8_house_72 : decode cX8_house 72 = .ok (.iconst 0, 1) := by decide +kernel
theorem dX8_house_73 : decode cX8_house 73 = .ok (.putfield 44, 3) := by decide +kernel
theorem dX8_house_76 : decode cX8_house 76 = .ok (.aload_n 0, 1) := by decide +kernel
theorem dX8_house_77 : decode cX8_house 77 = .ok (.getfield 72, 3) := by decide +kernel
theorem dX8_house_80 : decode cX8_house 80 = .ok (.iconst 0, 1) := by decide +kernel
theorem dX8_house_81 : decode cX8_house 81 = .ok (.putfield 105, 3) := by decide +kernel
theorem dX8_house_84 : decode cX8_house 84 = .ok (.iload_n 1, 1) := by decide +kernel
theorem dX8_house_85 : decode cX8_house 85 = .ok (.ireturn, 1) := by decide +kernel
theorem dX8_room_0 : decode cX8_room 0 = .ok (.aload_n 0, 1) := by decide +kernel
theorem dX8_room_1 : decode cX8_room 1 = .ok (.getfield 19, 3) := by decide +kernel
theorem dX8_room_4 : decode cX8_room 4 = .ok (.iload_n 1, 1) := by decide +kernel
theorem dX8_room_5 : decode cX8_room 5 = .ok (.invokevirtual 108, 3) := by decide +kernel
theorem dX8_room_8 : decode cX8_room 8 = .ok (.ifCond .ne 6, 3) := by decide +kernel
theorem dX8_room_11 : decode cX8_room 11 = .ok (.ldc 112, 2) := by decide +kernel
theorem dX8_room_13 : decode cX8_room 13 = .ok (.ireturn, 1) := by decide +kernel
theorem dX8_room_14 : decode cX8_room 14 = .ok (.iload_n 2, 1) := by decide +kernel
theorem dX8_room_15 : decode cX8_room 15 = .ok (.tableswitch 90 0 4 #[33, 43, 53, 63, 80], 33) := by decide +kernel
theorem dX8_room_48 : decode cX8_room 48 = .ok (.aload_n 0, 1) := by decide +kernel
theorem dX8_room_49 : decode cX8_room 49 = .ok (.getfield 29, 3) := by decide +kernel
theorem dX8_room_52 : decode cX8_room 52 = .ok (.getfield 113, 3) := by decide +kernel
theorem dX8_room_55 : decode cX8_room 55 = .ok (.iload_n 1, 1) := by decide +kernel
theorem dX8_room_56 : decode cX8_room 56 = .ok (.iaload, 1) := by decide +kernel
theorem dX8_room_57 : decode cX8_room 57 = .ok (.ireturn, 1) := by decide +kernel
theorem dX8_room_58 : decode cX8_room 58 = .ok (.aload_n 0, 1) := by decide +kernel
theorem dX8_room_59 : decode cX8_room 59 = .ok (.getfield 19, 3) := by decide +kernel
theorem dX8_room_62 : decode cX8_room 62 = .ok (.getfield 116, 3) := by decide +kernel
theorem dX8_room_65 : decode cX8_room 65 = .ok (.iload_n 1, 1) := by decide +kernel
theorem dX8_room_66 : decode cX8_room 66 = .ok (.iaload, 1) := by decide +kernel
theorem dX8_room_67 : decode cX8_room 67 = .ok (.ireturn, 1) := by decide +kernel
theorem dX8_room_68 : decode cX8_room 68 = .ok (.aload_n 0, 1) := by decide +kernel
theorem dX8_room_69 : decode cX8_room 69 = .ok (.getfield 19, 3) := by decide +kernel
theorem dX8_room_72 : decode cX8_room 72 = .ok (.getfield 119, 3) := by decide +kernel
theorem dX8_room_75 : decode cX8_room 75 = .ok (.iload_n 1, 1) := by decide +kernel
theorem dX8_room_76 : decode cX8_room 76 = .ok (.iaload, 1) := by decide +kernel
theorem dX8_room_77 : decode cX8_room 77 = .ok (.ireturn, 1) := by decide +kernel
theorem dX8_room_78 : decode cX8_room 78 = .ok (.aload_n 0, 1) := by decide +kernel
theorem dX8_room_79 : decode cX8_room 79 = .ok (.getfield 29, 3) := by decide +kernel
theorem dX8_room_82 : decode cX8_room 82 = .ok (.iload_n 1, 1) := by decide +kernel
theorem dX8_room_83 : decode cX8_room 83 = .ok (.invokevirtual 122, 3) := by decide +kernel
theorem dX8_room_86 : decode cX8_room 86 = .ok (.ifCond .eq 7, 3) := by decide +kernel
theorem dX8_room_89 : decode cX8_room 89 = .ok (.iconst 1, 1) := by decide +kernel
theorem dX8_room_90 : decode cX8_room 90 = .ok (.goto 4, 3) := by decide +kernel
theorem dX8_room_93 : decode cX8_room 93 = .ok (.iconst 0, 1) := by decide +kernel
theorem dX8_room_94 : decode cX8_room 94 = .ok (.ireturn, 1) := by decide +kernel
theorem dX8_room_95 : decode cX8_room 95 = .ok (.aload_n 0, 1) := by decide +kernel
theorem dX8_room_96 : decode cX8_room 96 = .ok (.getfield 29, 3) := by decide +kernel
theorem dX8_room_99 : decode cX8_room 99 = .ok (.getfield 125, 3) := by decide +kernel
theorem dX8_room_102 : decode cX8_room 102 = .ok (.iload_n 1, 1) := by decide +kernel
theorem dX8_room_103 : decode cX8_room 103 = .ok (.iaload, 1) := by decide +kernel
theorem dX8_room_104 : decode cX8_room 104 = .ok (.ireturn, 1) := by decide +kernel
theorem dX8_room_105 : decode cX8_room 105 = .ok (.ldc 112, 2) := by decide +kernel
theorem dX8_room_107 : decode cX8_room 107 = .ok (.ireturn, 1) := by decide +kernel
theorem dX8_doing_0 : decode cX8_doing 0 = .ok (.aload_n 0, 1) := by decide +kernel
theorem dX8_doing_1 : decode cX8_doing 1 = .ok (.getfield 19, 3) := by decide +kernel
theorem dX8_doing_4 : decode cX8_doing 4 = .ok (.iload_n 1, 1) := by decide +kernel
theorem dX8_doing_5 : decode cX8_doing 5 = .ok (.invokevirtual 128, 3) := by decide +kernel
theorem dX8_doing_8 : decode cX8_doing 8 = .ok (.ifCond .ne 5, 3) := by decide +kernel
theorem dX8_doing_11 : decode cX8_doing 11 = .ok (.iconst (-1), 1) := by decide +kernel
theorem dX8_doing_12 : decode cX8_doing 12 = .ok (.ireturn, 1) := by decide +kernel
theorem dX8_doing_13 : decode cX8_doing 13 = .ok (.iload_n 2, 1) := by decide +kernel
theorem dX8_doing_14 : decode cX8_doing 14 = .ok (.lookupswitch 46 #[(0, 26), (1, 36)], 26) := by decide +kernel
theorem dX8_doing_40 : decode cX8_doing 40 = .ok (.aload_n 0, 1) := by decide +kernel
theorem dX8_doing_41 : decode cX8_doing 41 = .ok (.getfield 19, 3) := by decide +kernel
theorem dX8_doing_44 : decode cX8_doing 44 = .ok (.getfield 131, 3) := by decide +kernel
theorem dX8_doing_47 : decode cX8_doing 47 = .ok (.iload_n 1, 1) := by decide +kernel
theorem dX8_doing_48 : decode cX8_doing 48 = .ok (.iaload, 1) := by decide +kernel
theorem dX8_doing_49 : decode cX8_doing 49 = .ok (.ireturn, 1) := by decide +kernel
theorem dX8_doing_50 : decode cX8_doing 50 = .ok (.aload_n 0, 1) := by decide +kernel
theorem dX8_doing_51 : decode cX8_doing 51 = .ok (.getfield 19, 3) := by decide +kernel
theorem dX8_doing_54 : decode cX8_doing 54 = .ok (.getfield 134, 3) := by decide +kernel
theorem dX8_doing_57 : decode cX8_doing 57 = .ok (.iload_n 1, 1) := by decide +kernel
theorem dX8_doing_58 : decode cX8_doing 58 = .ok (.iaload, 1) := by decide +kernel
theorem dX8_doing_59 : decode cX8_doing 59 = .ok (.ireturn, 1) := by decide +kernel
theorem dX8_doing_60 : decode cX8_doing 60 = .ok (.iconst (-1), 1) := by decide +kernel
theorem dX8_doing_61 : decode cX8_doing 61 = .ok (.ireturn, 1) := by decide +kernel
theorem dX8_suspect_0 : decode cX8_suspect 0 = .ok (.iload_n 1, 1) := by decide +kernel
theorem dX8_suspect_1 : decode cX8_suspect 1 = .ok (.ifCond .lt 14, 3) := by decide +kernel
theorem dX8_suspect_4 : decode cX8_suspect 4 = .ok (.iload_n 1, 1) := by decide +kernel
theorem dX8_suspect_5 : decode cX8_suspect 5 = .ok (.aload_n 0, 1) := by decide +kernel
theorem dX8_suspect_6 : decode cX8_suspect 6 = .ok (.getfield 19, 3) := by decide +kernel
theorem dX8_suspect_9 : decode cX8_suspect 9 = .ok (.getfield 137, 3) := by decide +kernel
theorem dX8_suspect_12 : decode cX8_suspect 12 = .ok (.if_icmp .lt 5, 3) := by decide +kernel
theorem dX8_suspect_15 : decode cX8_suspect 15 = .ok (.iconst (-1), 1) := by decide +kernel
theorem dX8_suspect_16 : decode cX8_suspect 16 = .ok (.ireturn, 1) := by decide +kernel
theorem dX8_suspect_17 : decode cX8_suspect 17 = .ok (.aload_n 0, 1) := by decide +kernel
theorem dX8_suspect_18 : decode cX8_suspect 18 = .ok (.getfield 19, 3) := by decide +kernel
theorem dX8_suspect_21 : decode cX8_suspect 21 = .ok (.getfield 140, 3) := by decide +kernel
theorem dX8_suspect_24 : decode cX8_suspect 24 = .ok (.iload_n 1, 1) := by decide +kernel
theorem dX8_suspect_25 : decode cX8_suspect 25 = .ok (.iaload, 1) := by decide +kernel
theorem dX8_suspect_26 : decode cX8_suspect 26 = .ok (.ireturn, 1) := by decide +kernel
theorem dX8_now_0 : decode cX8_now 0 = .ok (.iload_n 1, 1) := by decide +kernel
theorem dX8_now_1 : decode cX8_now 1 = .ok (.tableswitch 122 0 7 #[47, 55, 63, 71, 79, 91, 99, 114], 47) := by decide +kernel
theorem dX8_now_48 : decode cX8_now 48 = .ok (.aload_n 0, 1) := by decide +kernel
theorem dX8_now_49 : decode cX8_now 49 = .ok (.getfield 29, 3) := by decide +kernel
theorem dX8_now_52 : decode cX8_now 52 = .ok (.getfield 143, 3) := by decide +kernel
theorem dX8_now_55 : decode cX8_now 55 = .ok (.ireturn, 1) := by decide +kernel
theorem dX8_now_56 : decode cX8_now 56 = .ok (.aload_n 0, 1) := by decide +kernel
theorem dX8_now_57 : decode cX8_now 57 = .ok (.getfield 29, 3) := by decide +kernel
theorem dX8_now_60 : decode cX8_now 60 = .ok (.getfield 146, 3) := by decide +kernel
theorem dX8_now_63 : decode cX8_now 63 = .ok (.ireturn, 1) := by decide +kernel
theorem dX8_now_64 : decode cX8_now 64 = .ok (.aload_n 0, 1) := by decide +kernel
theorem dX8_now_65 : decode cX8_now 65 = .ok (.getfield 29, 3) := by decide +kernel
theorem dX8_now_68 : decode cX8_now 68 = .ok (.getfield 149, 3) := by decide +kernel
theorem dX8_now_71 : decode cX8_now 71 = .ok (.ireturn, 1) := by decide +kernel
theorem dX8_now_72 : decode cX8_now 72 = .ok (.aload_n 0, 1) := by decide +kernel
theorem dX8_now_73 : decode cX8_now 73 = .ok (.getfield 29, 3) := by decide +kernel
theorem dX8_now_76 : decode cX8_now 76 = .ok (.getfield 152, 3) := by decide +kernel
theorem dX8_now_79 : decode cX8_now 79 = .ok (.ireturn, 1) := by decide +kernel
theorem dX8_now_80 : decode cX8_now 80 = .ok (.aload_n 0, 1) := by decide +kernel
theorem dX8_now_81 : decode cX8_now 81 = .ok (.getfield 29, 3) := by decide +kernel
theorem dX8_now_84 : decode cX8_now 84 = .ok (.aload_n 0, 1) := by decide +kernel
theorem dX8_now_85 : decode cX8_now 85 = .ok (.getfield 19, 3) := by decide +kernel
theorem dX8_now_88 : decode cX8_now 88 = .ok (.invokevirtual 155, 3) := by decide +kernel
theorem dX8_now_91 : decode cX8_now 91 = .ok (.ireturn, 1) := by decide +kernel
theorem dX8_now_92 : decode cX8_now 92 = .ok (.aload_n 0, 1) := by decide +kernel
theorem dX8_now_93 : decode cX8_now 93 = .ok (.getfield 29, 3) := by decide +kernel
theorem dX8_now_96 : decode cX8_now 96 = .ok (.getfield 158, 3) := by decide +kernel
theorem dX8_now_99 : decode cX8_now 99 = .ok (.ireturn, 1) := by decide +kernel
theorem dX8_now_100 : decode cX8_now 100 = .ok (.aload_n 0, 1) := by decide +kernel
theorem dX8_now_101 : decode cX8_now 101 = .ok (.getfield 19, 3) := by decide +kernel
theorem dX8_now_104 : decode cX8_now 104 = .ok (.aload_n 0, 1) := by decide +kernel
theorem dX8_now_105 : decode cX8_now 105 = .ok (.getfield 29, 3) := by decide +kernel
theorem dX8_now_108 : decode cX8_now 108 = .ok (.getfield 158, 3) := by decide +kernel
theorem dX8_now_111 : decode cX8_now 111 = .ok (.invokestatic 161, 3) := by decide +kernel
theorem dX8_now_114 : decode cX8_now 114 = .ok (.ireturn, 1) := by decide +kernel
theorem dX8_now_115 : decode cX8_now 115 = .ok (.aload_n 0, 1) := by decide +kernel
theorem dX8_now_116 : decode cX8_now 116 = .ok (.getfield 36, 3) := by decide +kernel
theorem dX8_now_119 : decode cX8_now 119 = .ok (.getfield 165, 3) := by decide +kernel
theorem dX8_now_122 : decode cX8_now 122 = .ok (.ireturn, 1) := by decide +kernel
theorem dX8_now_123 : decode cX8_now 123 = .ok (.iconst (-1), 1) := by decide +kernel
theorem dX8_now_124 : decode cX8_now 124 = .ok (.ireturn, 1) := by decide +kernel
theorem dX8_goes_0 : decode cX8_goes 0 = .ok (.aload_n 0, 1) := by decide +kernel
theorem dX8_goes_1 : decode cX8_goes 1 = .ok (.getfield 19, 3) := by decide +kernel
theorem dX8_goes_4 : decode cX8_goes 4 = .ok (.iload_n 1, 1) := by decide +kernel
theorem dX8_goes_5 : decode cX8_goes 5 = .ok (.invokevirtual 108, 3) := by decide +kernel
theorem dX8_goes_8 : decode cX8_goes 8 = .ok (.ifCond .ne 5, 3) := by decide +kernel
theorem dX8_goes_11 : decode cX8_goes 11 = .ok (.iconst (-1), 1) := by decide +kernel
theorem dX8_goes_12 : decode cX8_goes 12 = .ok (.ireturn, 1) := by decide +kernel
theorem dX8_goes_13 : decode cX8_goes 13 = .ok (.aload_n 0, 1) := by decide +kernel
theorem dX8_goes_14 : decode cX8_goes 14 = .ok (.getfield 29, 3) := by decide +kernel
theorem dX8_goes_17 : decode cX8_goes 17 = .ok (.iload_n 1, 1) := by decide +kernel
theorem dX8_goes_18 : decode cX8_goes 18 = .ok (.invokevirtual 122, 3) := by decide +kernel
theorem dX8_goes_21 : decode cX8_goes 21 = .ok (.ifCond .ne 14, 3) := by decide +kernel
theorem dX8_goes_24 : decode cX8_goes 24 = .ok (.aload_n 0, 1) := by decide +kernel
theorem dX8_goes_25 : decode cX8_goes 25 = .ok (.getfield 29, 3) := by decide +kernel
theorem dX8_goes_28 : decode cX8_goes 28 = .ok (.getfield 143, 3) := by decide +kernel
theorem dX8_goes_31 : decode cX8_goes 31 = .ok (.iload_n 1, 1) := by decide +kernel
theorem dX8_goes_32 : decode cX8_goes 32 = .ok (.if_icmp .ne 6, 3) := by decide +kernel
theorem dX8_goes_35 : decode cX8_goes 35 = .ok (.bipush (-2), 2) := by decide +kernel
theorem dX8_goes_37 : decode cX8_goes 37 = .ok (.ireturn, 1) := by decide +kernel
theorem dX8_goes_38 : decode cX8_goes 38 = .ok (.aload_n 0, 1) := by decide +kernel
theorem dX8_goes_39 : decode cX8_goes 39 = .ok (.getfield 19, 3) := by decide +kernel
theorem dX8_goes_42 : decode cX8_goes 42 = .ok (.aload_n 0, 1) := by decide +kernel
theorem dX8_goes_43 : decode cX8_goes 43 = .ok (.getfield 29, 3) := by decide +kernel
theorem dX8_goes_46 : decode cX8_goes 46 = .ok (.getfield 146, 3) := by decide +kernel
theorem dX8_goes_49 : decode cX8_goes 49 = .ok (.iload_n 1, 1) := by decide +kernel
theorem dX8_goes_50 : decode cX8_goes 50 = .ok (.invokevirtual 166, 3) := by decide +kernel
theorem dX8_goes_53 : decode cX8_goes 53 = .ok (.istore_n 2, 1) := by decide +kernel
theorem dX8_goes_54 : decode cX8_goes 54 = .ok (.aload_n 0, 1) := by decide +kernel
theorem dX8_goes_55 : decode cX8_goes 55 = .ok (.getfield 29, 3) := by decide +kernel
theorem dX8_goes_58 : decode cX8_goes 58 = .ok (.getfield 149, 3) := by decide +kernel
theorem dX8_goes_61 : decode cX8_goes 61 = .ok (.iload_n 2, 1) := by decide +kernel
theorem dX8_goes_62 : decode cX8_goes 62 = .ok (.iadd, 1) := by decide +kernel
theorem dX8_goes_63 : decode cX8_goes 63 = .ok (.sipush 9999, 3) := by decide +kernel
theorem dX8_goes_66 : decode cX8_goes 66 = .ok (.if_icmp .le 6, 3) := by decide +kernel
theorem dX8_goes_69 : decode cX8_goes 69 = .ok (.bipush (-2), 2) := by decide +kernel
theorem dX8_goes_71 : decode cX8_goes 71 = .ok (.ireturn, 1) := by decide +kernel
theorem dX8_goes_72 : decode cX8_goes 72 = .ok (.aload_n 0, 1) := by decide +kernel
theorem dX8_goes_73 : decode cX8_goes 73 = .ok (.getfield 36, 3) := by decide +kernel
theorem dX8_goes_76 : decode cX8_goes 76 = .ok (.aload_n 0, 1) := by decide +kernel
theorem dX8_goes_77 : decode cX8_goes 77 = .ok (.getfield 29, 3) := by decide +kernel
theorem dX8_goes_80 : decode cX8_goes 80 = .ok (.invokevirtual 170, 3) := by decide +kernel
theorem dX8_goes_83 : decode cX8_goes 83 = .ok (.aload_n 0, 1) := by decide +kernel
theorem dX8_goes_84 : decode cX8_goes 84 = .ok (.getfield 29, 3) := by decide +kernel
theorem dX8_goes_87 : decode cX8_goes 87 = .ok (.dup, 1) := by decide +kernel
theorem dX8_goes_88 : decode cX8_goes 88 = .ok (.getfield 149, 3) := by decide +kernel
theorem dX8_goes_91 : decode cX8_goes 91 = .ok (.iload_n 2, 1) := by decide +kernel
theorem dX8_goes_92 : decode cX8_goes 92 = .ok (.iadd, 1) := by decide +kernel
theorem dX8_goes_93 : decode cX8_goes 93 = .ok (.putfield 149, 3) := by decide +kernel
theorem dX8_goes_96 : decode cX8_goes 96 = .ok (.aload_n 0, 1) := by decide +kernel
theorem dX8_goes_97 : decode cX8_goes 97 = .ok (.getfield 29, 3) := by decide +kernel
theorem dX8_goes_100 : decode cX8_goes 100 = .ok (.iload_n 1, 1) := by decide +kernel
theorem dX8_goes_101 : decode cX8_goes 101 = .ok (.putfield 143, 3) := by decide +kernel
theorem dX8_goes_104 : decode cX8_goes 104 = .ok (.aload_n 0, 1) := by decide +kernel
theorem dX8_goes_105 : decode cX8_goes 105 = .ok (.getfield 29, 3) := by decide +kernel
theorem dX8_goes_108 : decode cX8_goes 108 = .ok (.iload_n 1, 1) := by decide +kernel
theorem dX8_goes_109 : decode cX8_goes 109 = .ok (.putfield 146, 3) := by decide +kernel
theorem dX8_goes_112 : decode cX8_goes 112 = .ok (.iload_n 2, 1) := by decide +kernel
theorem dX8_goes_113 : decode cX8_goes 113 = .ok (.ireturn, 1) := by decide +kernel
theorem dX8_does_0 : decode cX8_does 0 = .ok (.aload_n 0, 1) := by decide +kernel
theorem dX8_does_1 : decode cX8_does 1 = .ok (.getfield 19, 3) := by decide +kernel
theorem dX8_does_4 : decode cX8_does 4 = .ok (.iload_n 1, 1) := by decide +kernel
theorem dX8_does_5 : decode cX8_does 5 = .ok (.invokevirtual 128, 3) := by decide +kernel
theorem dX8_does_8 : decode cX8_does 8 = .ok (.ifCond .ne 5, 3) := by decide +kernel
theorem dX8_does_11 : decode cX8_does 11 = .ok (.iconst (-1), 1) := by decide +kernel
theorem dX8_does_12 : decode cX8_does 12 = .ok (.ireturn, 1) := by decide +kernel
theorem dX8_does_13 : decode cX8_does 13 = .ok (.aload_n 0, 1) := by decide +kernel
theorem dX8_does_14 : decode cX8_does 14 = .ok (.getfield 29, 3) := by decide +kernel
theorem dX8_does_17 : decode cX8_does 17 = .ok (.getfield 143, 3) := by decide +kernel
theorem dX8_does_20 : decode cX8_does 20 = .ok (.istore_n 2, 1) := by decide +kernel
theorem dX8_does_21 : decode cX8_does 21 = .ok (.aload_n 0, 1) := by decide +kernel
theorem dX8_does_22 : decode cX8_does 22 = .ok (.getfield 19, 3) := by decide +kernel
theorem dX8_does_25 : decode cX8_does 25 = .ok (.iload_n 2, 1) := by decide +kernel
theorem dX8_does_26 : decode cX8_does 26 = .ok (.invokevirtual 108, 3) := by decide +kernel
theorem dX8_does_29 : decode cX8_does 29 = .ok (.ifCond .eq 26, 3) := by decide +kernel
theorem dX8_does_32 : decode cX8_does 32 = .ok (.aload_n 0, 1) := by decide +kernel
theorem dX8_does_33 : decode cX8_does 33 = .ok (.getfield 29, 3) := by decide +kernel
theorem dX8_does_36 : decode cX8_does 36 = .ok (.getfield 149, 3) := by decide +kernel
theorem dX8_does_39 : decode cX8_does 39 = .ok (.aload_n 0, 1) := by decide +kernel
theorem dX8_does_40 : decode cX8_does 40 = .ok (.getfield 19, 3) := by decide +kernel
theorem dX8_does_43 : decode cX8_does 43 = .ok (.getfield 134, 3) := by decide +kernel
theorem dX8_does_46 : decode cX8_does 46 = .ok (.iload_n 1, 1) := by decide +kernel
theorem dX8_does_47 : decode cX8_does 47 = .ok (.iaload, 1) := by decide +kernel
theorem dX8_does_48 : decode cX8_does 48 = .ok (.iadd, 1) := by decide +kernel
theorem dX8_does_49 : decode cX8_does 49 = .ok (.sipush 9999, 3) := by decide +kernel
theorem dX8_does_52 : decode cX8_does 52 = .ok (.if_icmp .le 6, 3) := by decide +kernel
theorem dX8_does_55 : decode cX8_does 55 = .ok (.bipush (-2), 2) := by decide +kernel
theorem dX8_does_57 : decode cX8_does 57 = .ok (.ireturn, 1) := by decide +kernel
theorem dX8_does_58 : decode cX8_does 58 = .ok (.aload_n 0, 1) := by decide +kernel
theorem dX8_does_59 : decode cX8_does 59 = .ok (.getfield 36, 3) := by decide +kernel
theorem dX8_does_62 : decode cX8_does 62 = .ok (.aload_n 0, 1) := by decide +kernel
theorem dX8_does_63 : decode cX8_does 63 = .ok (.getfield 29, 3) := by decide +kernel
theorem dX8_does_66 : decode cX8_does 66 = .ok (.invokevirtual 170, 3) := by decide +kernel
theorem dX8_does_69 : decode cX8_does 69 = .ok (.aload_n 0, 1) := by decide +kernel
theorem dX8_does_70 : decode cX8_does 70 = .ok (.getfield 29, 3) := by decide +kernel
theorem dX8_does_73 : decode cX8_does 73 = .ok (.aload_n 0, 1) := by decide +kernel
theorem dX8_does_74 : decode cX8_does 74 = .ok (.getfield 19, 3) := by decide +kernel
theorem dX8_does_77 : decode cX8_does 77 = .ok (.iload_n 2, 1) := by decide +kernel
theorem dX8_does_78 : decode cX8_does 78 = .ok (.iload_n 1, 1) := by decide +kernel
theorem dX8_does_79 : decode cX8_does 79 = .ok (.invokevirtual 174, 3) := by decide +kernel
theorem dX8_does_82 : decode cX8_does 82 = .ok (.aload_n 0, 1) := by decide +kernel
theorem dX8_does_83 : decode cX8_does 83 = .ok (.getfield 29, 3) := by decide +kernel
theorem dX8_does_86 : decode cX8_does 86 = .ok (.iload_n 2, 1) := by decide +kernel
theorem dX8_does_87 : decode cX8_does 87 = .ok (.invokevirtual 122, 3) := by decide +kernel
theorem dX8_does_90 : decode cX8_does 90 = .ok (.ifCond .eq 7, 3) := by decide +kernel
theorem dX8_does_93 : decode cX8_does 93 = .ok (.iconst 1, 1) := by decide +kernel
theorem dX8_does_94 : decode cX8_does 94 = .ok (.goto 4, 3) := by decide +kernel
theorem dX8_does_97 : decode cX8_does 97 = .ok (.iconst 0, 1) := by decide +kernel
theorem dX8_does_98 : decode cX8_does 98 = .ok (.ireturn, 1) := by decide +kernel
theorem dX8_asks_0 : decode cX8_asks 0 = .ok (.iload_n 1, 1) := by decide +kernel
theorem dX8_asks_1 : decode cX8_asks 1 = .ok (.ifCond .lt 8, 3) := by decide +kernel
theorem dX8_asks_4 : decode cX8_asks 4 = .ok (.iload_n 1, 1) := by decide +kernel
theorem dX8_asks_5 : decode cX8_asks 5 = .ok (.iconst 5, 1) := by decide +kernel
theorem dX8_asks_6 : decode cX8_asks 6 = .ok (.if_icmp .lt 5, 3) := by decide +kernel
theorem dX8_asks_9 : decode cX8_asks 9 = .ok (.iconst (-1), 1) := by decide +kernel
theorem dX8_asks_10 : decode cX8_asks 10 = .ok (.ireturn, 1) := by decide +kernel
theorem dX8_asks_11 : decode cX8_asks 11 = .ok (.aload_n 0, 1) := by decide +kernel
theorem dX8_asks_12 : decode cX8_asks 12 = .ok (.getfield 29, 3) := by decide +kernel
theorem dX8_asks_15 : decode cX8_asks 15 = .ok (.getfield 158, 3) := by decide +kernel
theorem dX8_asks_18 : decode cX8_asks 18 = .ok (.iload_n 1, 1) := by decide +kernel
theorem dX8_asks_19 : decode cX8_asks 19 = .ok (.ishr, 1) := by decide +kernel
theorem dX8_asks_20 : decode cX8_asks 20 = .ok (.iconst 1, 1) := by decide +kernel
theorem dX8_asks_21 : decode cX8_asks 21 = .ok (.iand, 1) := by decide +kernel
theorem dX8_asks_22 : decode cX8_asks 22 = .ok (.iconst 1, 1) := by decide +kernel
theorem dX8_asks_23 : decode cX8_asks 23 = .ok (.if_icmp .ne 7, 3) := by decide +kernel
theorem dX8_asks_26 : decode cX8_asks 26 = .ok (.iconst 1, 1) := by decide +kernel
theorem dX8_asks_27 : decode cX8_asks 27 = .ok (.goto 4, 3) := by decide +kernel
theorem dX8_asks_30 : decode cX8_asks 30 = .ok (.iconst 0, 1) := by decide +kernel
theorem dX8_asks_31 : decode cX8_asks 31 = .ok (.istore_n 2, 1) := by decide +kernel
theorem dX8_asks_32 : decode cX8_asks 32 = .ok (.aload_n 0, 1) := by decide +kernel
theorem dX8_asks_33 : decode cX8_asks 33 = .ok (.getfield 29, 3) := by decide +kernel
theorem dX8_asks_36 : decode cX8_asks 36 = .ok (.getfield 143, 3) := by decide +kernel
theorem dX8_asks_39 : decode cX8_asks 39 = .ok (.bipush (-9), 2) := by decide +kernel
theorem dX8_asks_41 : decode cX8_asks 41 = .ok (.if_icmp .eq 17, 3) := by decide +kernel
theorem dX8_asks_44 : decode cX8_asks 44 = .ok (.iload_n 2, 1) := by decide +kernel
theorem dX8_asks_45 : decode cX8_asks 45 = .ok (.ifCond .ne 13, 3) := by decide +kernel
theorem dX8_asks_48 : decode cX8_asks 48 = .ok (.aload_n 0, 1) := by decide +kernel
theorem dX8_asks_49 : decode cX8_asks 49 = .ok (.getfield 19, 3) := by decide +kernel
theorem dX8_asks_52 : decode cX8_asks 52 = .ok (.getfield 137, 3) := by decide +kernel
theorem dX8_asks_55 : decode cX8_asks 55 = .ok (.ifCond .ne 6, 3) := by decide +kernel
theorem dX8_asks_58 : decode cX8_asks 58 = .ok (.bipush (-2), 2) := by decide +kernel
theorem dX8_asks_60 : decode cX8_asks 60 = .ok (.ireturn, 1) := by decide +kernel
theorem dX8_asks_61 : decode cX8_asks 61 = .ok (.aload_n 0, 1) := by decide +kernel
theorem dX8_asks_62 : decode cX8_asks 62 = .ok (.getfield 29, 3) := by decide +kernel
theorem dX8_asks_65 : decode cX8_asks 65 = .ok (.getfield 149, 3) := by decide +kernel
theorem dX8_asks_68 : decode cX8_asks 68 = .ok (.iconst 2, 1) := by decide +kernel
theorem dX8_asks_69 : decode cX8_asks 69 = .ok (.iadd, 1) := by decide +kernel
theorem dX8_asks_70 : decode cX8_asks 70 = .ok (.sipush 9999, 3) := by decide +kernel
theorem dX8_asks_73 : decode cX8_asks 73 = .ok (.if_icmp .le 6, 3) := by decide +kernel
theorem dX8_asks_76 : decode cX8_asks 76 = .ok (.bipush (-2), 2) := by decide +kernel
theorem dX8_asks_78 : decode cX8_asks 78 = .ok (.ireturn, 1) := by decide +kernel
theorem dX8_asks_79 : decode cX8_asks 79 = .ok (.aload_n 0, 1) := by decide +kernel
theorem dX8_asks_80 : decode cX8_asks 80 = .ok (.getfield 36, 3) := by decide +kernel
theorem dX8_asks_83 : decode cX8_asks 83 = .ok (.aload_n 0, 1) := by decide +kernel
theorem dX8_asks_84 : decode cX8_asks 84 = .ok (.getfield 29, 3) := by decide +kernel
theorem dX8_asks_87 : decode cX8_asks 87 = .ok (.invokevirtual 170, 3) := by decide +kernel
theorem dX8_asks_90 : decode cX8_asks 90 = .ok (.aload_n 0, 1) := by decide +kernel
theorem dX8_asks_91 : decode cX8_asks 91 = .ok (.getfield 29, 3) := by decide +kernel
theorem dX8_asks_94 : decode cX8_asks 94 = .ok (.dup, 1) := by decide +kernel
theorem dX8_asks_95 : decode cX8_asks 95 = .ok (.getfield 149, 3) := by decide +kernel
theorem dX8_asks_98 : decode cX8_asks 98 = .ok (.iconst 2, 1) := by decide +kernel
theorem dX8_asks_99 : decode cX8_asks 99 = .ok (.iadd, 1) := by decide +kernel
theorem dX8_asks_100 : decode cX8_asks 100 = .ok (.putfield 149, 3) := by decide +kernel
theorem dX8_asks_103 : decode cX8_asks 103 = .ok (.aload_n 0, 1) := by decide +kernel
theorem dX8_asks_104 : decode cX8_asks 104 = .ok (.getfield 29, 3) := by decide +kernel
theorem dX8_asks_107 : decode cX8_asks 107 = .ok (.dup, 1) := by decide +kernel
theorem dX8_asks_108 : decode cX8_asks 108 = .ok (.getfield 158, 3) := by decide +kernel
theorem dX8_asks_111 : decode cX8_asks 111 = .ok (.iconst 1, 1) := by decide +kernel
theorem dX8_asks_112 : decode cX8_asks 112 = .ok (.iload_n 1, 1) := by decide +kernel
theorem dX8_asks_113 : decode cX8_asks 113 = .ok (.ishl, 1) := by decide +kernel
theorem dX8_asks_114 : decode cX8_asks 114 = .ok (.ior, 1) := by decide +kernel
theorem dX8_asks_115 : decode cX8_asks 115 = .ok (.putfield 158, 3) := by decide +kernel
theorem dX8_asks_118 : decode cX8_asks 118 = .ok (.aload_n 0, 1) := by decide +kernel
theorem dX8_asks_119 : decode cX8_asks 119 = .ok (.getfield 19, 3) := by decide +kernel
theorem dX8_asks_122 : decode cX8_asks 122 = .ok (.getfield 140, 3) := by decide +kernel
theorem dX8_asks_125 : decode cX8_asks 125 = .ok (.aload_n 0, 1) := by decide +kernel
theorem dX8_asks_126 : decode cX8_asks 126 = .ok (.getfield 19, 3) := by decide +kernel
theorem dX8_asks_129 : decode cX8_asks 129 = .ok (.getfield 178, 3) := by decide +kernel
theorem dX8_asks_132 : decode cX8_asks 132 = .ok (.iaload, 1) := by decide +kernel
theorem dX8_asks_133 : decode cX8_asks 133 = .ok (.iload_n 1, 1) := by decide +kernel
theorem dX8_asks_134 : decode cX8_asks 134 = .ok (.ishr, 1) := by decide +kernel
theorem dX8_asks_135 : decode cX8_asks 135 = .ok (.iconst 1, 1) := by decide +kernel
theorem dX8_asks_136 : decode cX8_asks 136 = .ok (.iand, 1) := by decide +kernel
theorem dX8_asks_137 : decode cX8_asks 137 = .ok (.ireturn, 1) := by decide +kernel
theorem dX8_undo_0 : decode cX8_undo 0 = .ok (.aload_n 0, 1) := by decide +kernel
theorem dX8_undo_1 : decode cX8_undo 1 = .ok (.getfield 36, 3) := by decide +kernel
theorem dX8_undo_4 : decode cX8_undo 4 = .ok (.getfield 165, 3) := by decide +kernel
theorem dX8_undo_7 : decode cX8_undo 7 = .ok (.ifCond .ne 6, 3) := by decide +kernel
theorem dX8_undo_10 : decode cX8_undo 10 = .ok (.bipush (-2), 2) := by decide +kernel
theorem dX8_undo_12 : decode cX8_undo 12 = .ok (.ireturn, 1) := by decide +kernel
theorem dX8_undo_13 : decode cX8_undo 13 = .ok (.aload_n 0, 1) := by decide +kernel
theorem dX8_undo_14 : decode cX8_undo 14 = .ok (.getfield 36, 3) := by decide +kernel
theorem dX8_undo_17 : decode cX8_undo 17 = .ok (.aload_n 0, 1) := by decide +kernel
theorem dX8_undo_18 : decode cX8_undo 18 = .ok (.getfield 29, 3) := by decide +kernel
theorem dX8_undo_21 : decode cX8_undo 21 = .ok (.invokevirtual 181, 3) := by decide +kernel
theorem dX8_undo_24 : decode cX8_undo 24 = .ok (.aload_n 0, 1) := by decide +kernel
theorem dX8_undo_25 : decode cX8_undo 25 = .ok (.getfield 36, 3) := by decide +kernel
theorem dX8_undo_28 : decode cX8_undo 28 = .ok (.getfield 165, 3) := by decide +kernel
theorem dX8_undo_31 : decode cX8_undo 31 = .ok (.ireturn, 1) := by decide +kernel
theorem dX8_soonest_0 : decode cX8_soonest 0 = .ok (.aload_n 0, 1) := by decide +kernel
theorem dX8_soonest_1 : decode cX8_soonest 1 = .ok (.getfield 19, 3) := by decide +kernel
theorem dX8_soonest_4 : decode cX8_soonest 4 = .ok (.iload_n 1, 1) := by decide +kernel
theorem dX8_soonest_5 : decode cX8_soonest 5 = .ok (.invokevirtual 108, 3) := by decide +kernel
theorem dX8_soonest_8 : decode cX8_soonest 8 = .ok (.ifCond .eq 9, 3) := by decide +kernel
theorem dX8_soonest_11 : decode cX8_soonest 11 = .ok (.iload_n 2, 1) := by decide +kernel
theorem dX8_soonest_12 : decode cX8_soonest 12 = .ok (.bipush (-2), 2) := by decide +kernel
theorem dX8_soonest_14 : decode cX8_soonest 14 = .ok (.if_icmp .ge 5, 3) := by decide +kernel
theorem dX8_soonest_17 : decode cX8_soonest 17 = .ok (.iconst (-1), 1) := by decide +kernel
theorem dX8_soonest_18 : decode cX8_soonest 18 = .ok (.ireturn, 1) := by decide +kernel
theorem dX8_soonest_19 : decode cX8_soonest 19 = .ok (.aload_n 0, 1) := by decide +kernel
theorem dX8_soonest_20 : decode cX8_soonest 20 = .ok (.getfield 29, 3) := by decide +kernel
theorem dX8_soonest_23 : decode cX8_soonest 23 = .ok (.iload_n 1, 1) := by decide +kernel
theorem dX8_soonest_24 : decode cX8_soonest 24 = .ok (.invokevirtual 122, 3) := by decide +kernel
theorem dX8_soonest_27 : decode cX8_soonest 27 = .ok (.ifCond .eq 6, 3) := by decide +kernel
theorem dX8_soonest_30 : decode cX8_soonest 30 = .ok (.bipush (-2), 2) := by decide +kernel
theorem dX8_soonest_32 : decode cX8_soonest 32 = .ok (.ireturn, 1) := by decide +kernel
theorem dX8_soonest_33 : decode cX8_soonest 33 = .ok (.aload_n 0, 1) := by decide +kernel
theorem dX8_soonest_34 : decode cX8_soonest 34 = .ok (.getfield 51, 3) := by decide +kernel
theorem dX8_soonest_37 : decode cX8_soonest 37 = .ok (.aload_n 0, 1) := by decide +kernel
theorem dX8_soonest_38 : decode cX8_soonest 38 = .ok (.getfield 19, 3) := by decide +kernel
theorem dX8_soonest_41 : decode cX8_soonest 41 = .ok (.aload_n 0, 1) := by decide +kernel
theorem dX8_soonest_42 : decode cX8_soonest 42 = .ok (.getfield 29, 3) := by decide +kernel
theorem dX8_soonest_45 : decode cX8_soonest 45 = .ok (.iload_n 1, 1) := by decide +kernel
theorem dX8_soonest_46 : decode cX8_soonest 46 = .ok (.invokevirtual 184, 3) := by decide +kernel
theorem dX8_soonest_49 : decode cX8_soonest 49 = .ok (.aload_n 0, 1) := by decide +kernel
theorem dX8_soonest_50 : decode cX8_soonest 50 = .ok (.getfield 51, 3) := by decide +kernel
theorem dX8_soonest_53 : decode cX8_soonest 53 = .ok (.invokevirtual 188, 3) := by decide +kernel
theorem dX8_soonest_56 : decode cX8_soonest 56 = .ok (.ifCond .eq 6, 3) := by decide +kernel
theorem dX8_soonest_59 : decode cX8_soonest 59 = .ok (.bipush (-9), 2) := by decide +kernel
theorem dX8_soonest_61 : decode cX8_soonest 61 = .ok (.ireturn, 1) := by decide +kernel
theorem dX8_soonest_62 : decode cX8_soonest 62 = .ok (.iload_n 2, 1) := by decide +kernel
theorem dX8_soonest_63 : decode cX8_soonest 63 = .ok (.lookupswitch 41 #[(-2, 33), (-1, 25)], 25) := by decide +kernel
theorem dX8_soonest_88 : decode cX8_soonest 88 = .ok (.aload_n 0, 1) := by decide +kernel
theorem dX8_soonest_89 : decode cX8_soonest 89 = .ok (.getfield 51, 3) := by decide +kernel
theorem dX8_soonest_92 : decode cX8_soonest 92 = .ok (.invokevirtual 192, 3) := by decide +kernel
theorem dX8_soonest_95 : decode cX8_soonest 95 = .ok (.ireturn, 1) := by decide +kernel
theorem dX8_soonest_96 : decode cX8_soonest 96 = .ok (.aload_n 0, 1) := by decide +kernel
theorem dX8_soonest_97 : decode cX8_soonest 97 = .ok (.getfield 51, 3) := by decide +kernel
theorem dX8_soonest_100 : decode cX8_soonest 100 = .ok (.invokevirtual 196, 3) := by decide +kernel
theorem dX8_soonest_103 : decode cX8_soonest 103 = .ok (.ireturn, 1) := by decide +kernel
theorem dX8_soonest_104 : decode cX8_soonest 104 = .ok (.aload_n 0, 1) := by decide +kernel
theorem dX8_soonest_105 : decode cX8_soonest 105 = .ok (.getfield 51, 3) := by decide +kernel
theorem dX8_soonest_108 : decode cX8_soonest 108 = .ok (.iload_n 2, 1) := by decide +kernel
theorem dX8_soonest_109 : decode cX8_soonest 109 = .ok (.invokevirtual 199, 3) := by decide +kernel
theorem dX8_soonest_112 : decode cX8_soonest 112 = .ok (.ireturn, 1) := by decide +kernel
theorem dX8_loved_0 : decode cX8_loved 0 = .ok (.aload_n 0, 1) := by decide +kernel
theorem dX8_loved_1 : decode cX8_loved 1 = .ok (.getfield 51, 3) := by decide +kernel
theorem dX8_loved_4 : decode cX8_loved 4 = .ok (.aload_n 0, 1) := by decide +kernel
theorem dX8_loved_5 : decode cX8_loved 5 = .ok (.getfield 19, 3) := by decide +kernel
theorem dX8_loved_8 : decode cX8_loved 8 = .ok (.aload_n 0, 1) := by decide +kernel
theorem dX8_loved_9 : decode cX8_loved 9 = .ok (.getfield 29, 3) := by decide +kernel
theorem dX8_loved_12 : decode cX8_loved 12 = .ok (.invokevirtual 203, 3) := by decide +kernel
theorem dX8_loved_15 : decode cX8_loved 15 = .ok (.iconst 0, 1) := by decide +kernel
theorem dX8_loved_16 : decode cX8_loved 16 = .ok (.istore_n 1, 1) := by decide +kernel
theorem dX8_loved_17 : decode cX8_loved 17 = .ok (.iconst 0, 1) := by decide +kernel
theorem dX8_loved_18 : decode cX8_loved 18 = .ok (.istore_n 2, 1) := by decide +kernel
theorem dX8_loved_19 : decode cX8_loved 19 = .ok (.iload_n 2, 1) := by decide +kernel
theorem dX8_loved_20 : decode cX8_loved 20 = .ok (.aload_n 0, 1) := by decide +kernel
theorem dX8_loved_21 : decode cX8_loved 21 = .ok (.getfield 19, 3) := by decide +kernel
theorem dX8_loved_24 : decode cX8_loved 24 = .ok (.getfield 207, 3) := by decide +kernel
theorem dX8_loved_27 : decode cX8_loved 27 = .ok (.if_icmp .ge 40, 3) := by decide +kernel
theorem dX8_loved_30 : decode cX8_loved 30 = .ok (.aload_n 0, 1) := by decide +kernel
theorem dX8_loved_31 : decode cX8_loved 31 = .ok (.getfield 29, 3) := by decide +kernel
theorem dX8_loved_34 : decode cX8_loved 34 = .ok (.iload_n 2, 1) := by decide +kernel
theorem dX8_loved_35 : decode cX8_loved 35 = .ok (.invokevirtual 122, 3) := by decide +kernel
theorem dX8_loved_38 : decode cX8_loved 38 = .ok (.ifCond .ne 23, 3) := by decide +kernel
theorem dX8_loved_41 : decode cX8_loved 41 = .ok (.aload_n 0, 1) := by decide +kernel
theorem dX8_loved_42 : decode cX8_loved 42 = .ok (.getfield 51, 3) := by decide +kernel
theorem dX8_loved_45 : decode cX8_loved 45 = .ok (.getfield 210, 3) := by decide +kernel
theorem dX8_loved_48 : decode cX8_loved 48 = .ok (.iload_n 2, 1) := by decide +kernel
theorem dX8_loved_49 : decode cX8_loved 49 = .ok (.iaload, 1) := by decide +kernel
theorem dX8_loved_50 : decode cX8_loved 50 = .ok (.bipush (-9), 2) := by decide +kernel
theorem dX8_loved_52 : decode cX8_loved 52 = .ok (.if_icmp .ne 9, 3) := by decide +kernel
theorem dX8_loved_55 : decode cX8_loved 55 = .ok (.iload_n 1, 1) := by decide +kernel
theorem dX8_loved_56 : decode cX8_loved 56 = .ok (.iconst 1, 1) := by decide +kernel
theorem dX8_loved_57 : decode cX8_loved 57 = .ok (.iload_n 2, 1) := by decide +kernel
theorem dX8_loved_58 : decode cX8_loved 58 = .ok (.ishl, 1) := by decide +kernel
theorem dX8_loved_59 : decode cX8_loved 59 = .ok (.ior, 1) := by decide +kernel
theorem dX8_loved_60 : decode cX8_loved 60 = .ok (.istore_n 1, 1) := by decide +kernel
theorem dX8_loved_61 : decode cX8_loved 61 = .ok (.iinc 2 1, 3) := by decide +kernel
theorem dX8_loved_64 : decode cX8_loved 64 = .ok (.goto (-45), 3) := by decide +kernel
theorem dX8_loved_67 : decode cX8_loved 67 = .ok (.iload_n 1, 1) := by decide +kernel
theorem dX8_loved_68 : decode cX8_loved 68 = .ok (.ireturn, 1) := by decide +kernel
theorem dX8_round_0 : decode cX8_round 0 = .ok (.iload_n 1, 1) := by decide +kernel
theorem dX8_round_1 : decode cX8_round 1 = .ok (.bipush (-2), 2) := by decide +kernel
theorem dX8_round_3 : decode cX8_round 3 = .ok (.if_icmp .ge 5, 3) := by decide +kernel
theorem dX8_round_6 : decode cX8_round 6 = .ok (.iconst (-1), 1) := by decide +kernel
theorem dX8_round_7 : decode cX8_round 7 = .ok (.ireturn, 1) := by decide +kernel
theorem dX8_round_8 : decode cX8_round 8 = .ok (.aload_n 0, 1) := by decide +kernel
theorem dX8_round_9 : decode cX8_round 9 = .ok (.getfield 51, 3) := by decide +kernel
theorem dX8_round_12 : decode cX8_round 12 = .ok (.aload_n 0, 1) := by decide +kernel
theorem dX8_round_13 : decode cX8_round 13 = .ok (.getfield 19, 3) := by decide +kernel
theorem dX8_round_16 : decode cX8_round 16 = .ok (.aload_n 0, 1) := by decide +kernel
theorem dX8_round_17 : decode cX8_round 17 = .ok (.getfield 29, 3) := by decide +kernel
theorem dX8_round_20 : decode cX8_round 20 = .ok (.invokevirtual 203, 3) := by decide +kernel
theorem dX8_round_23 : decode cX8_round 23 = .ok (.aload_n 0, 1) := by decide +kernel
theorem dX8_round_24 : decode cX8_round 24 = .ok (.getfield 58, 3) := by decide +kernel
theorem dX8_round_27 : decode cX8_round 27 = .ok (.aload_n 0, 1) := by decide +kernel
theorem dX8_round_28 : decode cX8_round 28 = .ok (.getfield 19, 3) := by decide +kernel
theorem dX8_round_31 : decode cX8_round 31 = .ok (.aload_n 0, 1) := by decide +kernel
theorem dX8_round_32 : decode cX8_round 32 = .ok (.getfield 29, 3) := by decide +kernel
theorem dX8_round_35 : decode cX8_round 35 = .ok (.aload_n 0, 1) := by decide +kernel
theorem dX8_round_36 : decode cX8_round 36 = .ok (.getfield 51, 3) := by decide +kernel
theorem dX8_round_39 : decode cX8_round 39 = .ok (.getfield 210, 3) := by decide +kernel
theorem dX8_round_42 : decode cX8_round 42 = .ok (.invokevirtual 213, 3) := by decide +kernel
theorem dX8_round_45 : decode cX8_round 45 = .ok (.iload_n 1, 1) := by decide +kernel
theorem dX8_round_46 : decode cX8_round 46 = .ok (.lookupswitch 42 #[(-2, 34), (-1, 26)], 26) := by decide +kernel
theorem dX8_round_72 : decode cX8_round 72 = .ok (.aload_n 0, 1) := by decide +kernel
theorem dX8_round_73 : decode cX8_round 73 = .ok (.getfield 58, 3) := by decide +kernel
theorem dX8_round_76 : decode cX8_round 76 = .ok (.getfield 217, 3) := by decide +kernel
theorem dX8_round_79 : decode cX8_round 79 = .ok (.ireturn, 1) := by decide +kernel
theorem dX8_round_80 : decode cX8_round 80 = .ok (.aload_n 0, 1) := by decide +kernel
theorem dX8_round_81 : decode cX8_round 81 = .ok (.getfield 58, 3) := by decide +kernel
theorem dX8_round_84 : decode cX8_round 84 = .ok (.getfield 220, 3) := by decide +kernel
theorem dX8_round_87 : decode cX8_round 87 = .ok (.ireturn, 1) := by decide +kernel
theorem dX8_round_88 : decode cX8_round 88 = .ok (.iload_n 1, 1) := by decide +kernel
theorem dX8_round_89 : decode cX8_round 89 = .ok (.aload_n 0, 1) := by decide +kernel
theorem dX8_round_90 : decode cX8_round 90 = .ok (.getfield 58, 3) := by decide +kernel
theorem dX8_round_93 : decode cX8_round 93 = .ok (.getfield 223, 3) := by decide +kernel
theorem dX8_round_96 : decode cX8_round 96 = .ok (.if_icmp .ge 15, 3) := by decide +kernel
theorem dX8_round_99 : decode cX8_round 99 = .ok (.aload_n 0, 1) := by decide +kernel
theorem dX8_round_100 : decode cX8_round 100 = .ok (.getfield 58, 3) := by decide +kernel
theorem dX8_round_103 : decode cX8_round 103 = .ok (.getfield 226, 3) := by decide +kernel
theorem dX8_round_106 : decode cX8_round 106 = .ok (.iload_n 1, 1) := by decide +kernel
theorem dX8_round_107 : decode cX8_round 107 = .ok (.iaload, 1) := by decide +kernel
theorem dX8_round_108 : decode cX8_round 108 = .ok (.goto 5, 3) := by decide +kernel
theorem dX8_round_111 : decode cX8_round 111 = .ok (.bipush (-5), 2) := by decide +kernel
theorem dX8_round_113 : decode cX8_round 113 = .ok (.ireturn, 1) := by decide +kernel
theorem dX8_country_0 : decode cX8_country 0 = .ok (.aload_n 0, 1) := by decide +kernel
theorem dX8_country_1 : decode cX8_country 1 = .ok (.getfield 19, 3) := by decide +kernel
theorem dX8_country_4 : decode cX8_country 4 = .ok (.getfield 207, 3) := by decide +kernel
theorem dX8_country_7 : decode cX8_country 7 = .ok (.iconst 2, 1) := by decide +kernel
theorem dX8_country_8 : decode cX8_country 8 = .ok (.idiv, 1) := by decide +kernel
theorem dX8_country_9 : decode cX8_country 9 = .ok (.iconst 1, 1) := by decide +kernel
theorem dX8_country_10 : decode cX8_country 10 = .ok (.iadd, 1) := by decide +kernel
theorem dX8_country_11 : decode cX8_country 11 = .ok (.aload_n 0, 1) := by decide +kernel
theorem dX8_country_12 : decode cX8_country 12 = .ok (.getfield 29, 3) := by decide +kernel
theorem dX8_country_15 : decode cX8_country 15 = .ok (.getfield 152, 3) := by decide +kernel
theorem dX8_country_18 : decode cX8_country 18 = .ok (.invokestatic 229, 3) := by decide +kernel
theorem dX8_country_21 : decode cX8_country 21 = .ok (.isub, 1) := by decide +kernel
theorem dX8_country_22 : decode cX8_country 22 = .ok (.istore_n 1, 1) := by decide +kernel
theorem dX8_country_23 : decode cX8_country 23 = .ok (.aload_n 0, 1) := by decide +kernel
theorem dX8_country_24 : decode cX8_country 24 = .ok (.getfield 51, 3) := by decide +kernel
theorem dX8_country_27 : decode cX8_country 27 = .ok (.aload_n 0, 1) := by decide +kernel
theorem dX8_country_28 : decode cX8_country 28 = .ok (.getfield 19, 3) := by decide +kernel
theorem dX8_country_31 : decode cX8_country 31 = .ok (.aload_n 0, 1) := by decide +kernel
theorem dX8_country_32 : decode cX8_country 32 = .ok (.getfield 29, 3) := by decide +kernel
theorem dX8_country_35 : decode cX8_country 35 = .ok (.invokevirtual 203, 3) := by decide +kernel
theorem dX8_country_38 : decode cX8_country 38 = .ok (.iconst 0, 1) := by decide +kernel
theorem dX8_country_39 : decode cX8_country 39 = .ok (.istore_n 2, 1) := by decide +kernel
theorem dX8_country_40 : decode cX8_country 40 = .ok (.iconst 0, 1) := by decide +kernel
theorem dX8_country_41 : decode cX8_country 41 = .ok (.istore_n 3, 1) := by decide +kernel
theorem dX8_country_42 : decode cX8_country 42 = .ok (.iconst 0, 1) := by decide +kernel
theorem dX8_country_43 : decode cX8_country 43 = .ok (.istore 4, 2) := by decide +kernel
theorem dX8_country_45 : decode cX8_country 45 = .ok (.iload 4, 2) := by decide +kernel
theorem dX8_country_47 : decode cX8_country 47 = .ok (.iload_n 1, 1) := by decide +kernel
theorem dX8_country_48 : decode cX8_country 48 = .ok (.if_icmp .ge 49, 3) := by decide +kernel
theorem dX8_country_51 : decode cX8_country 51 = .ok (.aload_n 0, 1) := by decide +kernel
theorem dX8_country_52 : decode cX8_country 52 = .ok (.getfield 51, 3) := by decide +kernel
theorem dX8_country_55 : decode cX8_country 55 = .ok (.iload_n 2, 1) := by decide +kernel
theorem dX8_country_56 : decode cX8_country 56 = .ok (.invokevirtual 234, 3) := by decide +kernel
theorem dX8_country_59 : decode cX8_country 59 = .ok (.istore 5, 2) := by decide +kernel
theorem dX8_country_61 : decode cX8_country 61 = .ok (.iload 5, 2) := by decide +kernel
theorem dX8_country_63 : decode cX8_country 63 = .ok (.bipush (-9), 2) := by decide +kernel
theorem dX8_country_65 : decode cX8_country 65 = .ok (.if_icmp .ne 6, 3) := by decide +kernel
theorem dX8_country_68 : decode cX8_country 68 = .ok (.bipush (-9), 2) := by decide +kernel
theorem dX8_country_70 : decode cX8_country 70 = .ok (.ireturn, 1) := by decide +kernel
theorem dX8_country_71 : decode cX8_country 71 = .ok (.iload_n 2, 1) := by decide +kernel
theorem dX8_country_72 : decode cX8_country 72 = .ok (.iconst 1, 1) := by decide +kernel
theorem dX8_country_73 : decode cX8_country 73 = .ok (.iload 5, 2) := by decide +kernel
theorem dX8_country_75 : decode cX8_country 75 = .ok (.ishl, 1) := by decide +kernel
theorem dX8_country_76 : decode cX8_country 76 = .ok (.ior, 1) := by decide +kernel
theorem dX8_country_77 : decode cX8_country 77 = .ok (.istore_n 2, 1) := by decide +kernel
theorem dX8_country_78 : decode cX8_country 78 = .ok (.iload_n 3, 1) := by decide +kernel
theorem dX8_country_79 : decode cX8_country 79 = .ok (.aload_n 0, 1) := by decide +kernel
theorem dX8_country_80 : decode cX8_country 80 = .ok (.getfield 51, 3) := by decide +kernel
theorem dX8_country_83 : decode cX8_country 83 = .ok (.getfield 210, 3) := by decide +kernel
theorem dX8_country_86 : decode cX8_country 86 = .ok (.iload 5, 2) := by decide +kernel
theorem dX8_country_88 : decode cX8_country 88 = .ok (.iaload, 1) := by decide +kernel
theorem dX8_country_89 : decode cX8_country 89 = .ok (.iadd, 1) := by decide +kernel
theorem dX8_country_90 : decode cX8_country 90 = .ok (.istore_n 3, 1) := by decide +kernel
theorem dX8_country_91 : decode cX8_country 91 = .ok (.iinc 4 1, 3) := by decide +kernel
theorem dX8_country_94 : decode cX8_country 94 = .ok (.goto (-49), 3) := by decide +kernel
theorem dX8_country_97 : decode cX8_country 97 = .ok (.iload_n 3, 1) := by decide +kernel
theorem dX8_country_98 : decode cX8_country 98 = .ok (.ireturn, 1) := by decide +kernel
theorem dX8_next_0 : decode cX8_next 0 = .ok (.aload_n 0, 1) := by decide +kernel
theorem dX8_next_1 : decode cX8_next 1 = .ok (.getfield 19, 3) := by decide +kernel
theorem dX8_next_4 : decode cX8_next 4 = .ok (.aload_n 0, 1) := by decide +kernel
theorem dX8_next_5 : decode cX8_next 5 = .ok (.getfield 29, 3) := by decide +kernel
theorem dX8_next_8 : decode cX8_next 8 = .ok (.getfield 158, 3) := by decide +kernel
theorem dX8_next_11 : decode cX8_next 11 = .ok (.invokestatic 237, 3) := by decide +kernel
theorem dX8_next_14 : decode cX8_next 14 = .ok (.ireturn, 1) := by decide +kernel
theorem dX8_questions_0 : decode cX8_questions 0 = .ok (.aload_n 0, 1) := by decide +kernel
theorem dX8_questions_1 : decode cX8_questions 1 = .ok (.getfield 65, 3) := by decide +kernel
theorem dX8_questions_4 : decode cX8_questions 4 = .ok (.aload_n 0, 1) := by decide +kernel
theorem dX8_questions_5 : decode cX8_questions 5 = .ok (.getfield 19, 3) := by decide +kernel
theorem dX8_questions_8 : decode cX8_questions 8 = .ok (.aload_n 0, 1) := by decide +kernel
theorem dX8_questions_9 : decode cX8_questions 9 = .ok (.getfield 19, 3) := by decide +kernel
theorem dX8_questions_12 : decode cX8_questions 12 = .ok (.aload_n 0, 1) := by decide +kernel
theorem dX8_questions_13 : decode cX8_questions 13 = .ok (.getfield 29, 3) := by decide +kernel
theorem dX8_questions_16 : decode cX8_questions 16 = .ok (.getfield 158, 3) := by decide +kernel
theorem dX8_questions_19 : decode cX8_questions 19 = .ok (.invokestatic 161, 3) := by decide +kernel
theorem dX8_questions_22 : decode cX8_questions 22 = .ok (.invokevirtual 240, 3) := by decide +kernel
theorem dX8_questions_25 : decode cX8_questions 25 = .ok (.ireturn, 1) := by decide +kernel
theorem dX8_felt_0 : decode cX8_felt 0 = .ok (.aload_n 0, 1) := by decide +kernel
theorem dX8_felt_1 : decode cX8_felt 1 = .ok (.getfield 19, 3) := by decide +kernel
theorem dX8_felt_4 : decode cX8_felt 4 = .ok (.iload_n 1, 1) := by decide +kernel
theorem dX8_felt_5 : decode cX8_felt 5 = .ok (.invokevirtual 128, 3) := by decide +kernel
theorem dX8_felt_8 : decode cX8_felt 8 = .ok (.ifCond .eq 13, 3) := by decide +kernel
theorem dX8_felt_11 : decode cX8_felt 11 = .ok (.iload_n 2, 1) := by decide +kernel
theorem dX8_felt_12 : decode cX8_felt 12 = .ok (.ifCond .lt 9, 3) := by decide +kernel
theorem dX8_felt_15 : decode cX8_felt 15 = .ok (.iload_n 2, 1) := by decide +kernel
theorem dX8_felt_16 : decode cX8_felt 16 = .ok (.bipush 30, 2) := by decide +kernel
theorem dX8_felt_18 : decode cX8_felt 18 = .ok (.if_icmp .le 5, 3) := by decide +kernel
theorem dX8_felt_21 : decode cX8_felt 21 = .ok (.iconst (-1), 1) := by decide +kernel
theorem dX8_felt_22 : decode cX8_felt 22 = .ok (.ireturn, 1) := by decide +kernel
theorem dX8_felt_23 : decode cX8_felt 23 = .ok (.aload_n 0, 1) := by decide +kernel
theorem dX8_felt_24 : decode cX8_felt 24 = .ok (.getfield 72, 3) := by decide +kernel
theorem dX8_felt_27 : decode cX8_felt 27 = .ok (.getfield 105, 3) := by decide +kernel
theorem dX8_felt_30 : decode cX8_felt 30 = .ok (.iconst 5, 1) := by decide +kernel
theorem dX8_felt_31 : decode cX8_felt 31 = .ok (.if_icmp .lt 6, 3) := by decide +kernel
theorem dX8_felt_34 : decode cX8_felt 34 = .ok (.bipush (-3), 2) := by decide +kernel
theorem dX8_felt_36 : decode cX8_felt 36 = .ok (.ireturn, 1) := by decide +kernel
theorem dX8_felt_37 : decode cX8_felt 37 = .ok (.aload_n 0, 1) := by decide +kernel
theorem dX8_felt_38 : decode cX8_felt 38 = .ok (.getfield 72, 3) := by decide +kernel
theorem dX8_felt_41 : decode cX8_felt 41 = .ok (.iload_n 1, 1) := by decide +kernel
theorem dX8_felt_42 : decode cX8_felt 42 = .ok (.iload_n 2, 1) := by decide +kernel
theorem dX8_felt_43 : decode cX8_felt 43 = .ok (.invokevirtual 243, 3) := by decide +kernel
theorem dX8_felt_46 : decode cX8_felt 46 = .ok (.aload_n 0, 1) := by decide +kernel
theorem dX8_felt_47 : decode cX8_felt 47 = .ok (.getfield 72, 3) := by decide +kernel
theorem dX8_felt_50 : decode cX8_felt 50 = .ok (.getfield 105, 3) := by decide +kernel
theorem dX8_felt_53 : decode cX8_felt 53 = .ok (.ireturn, 1) := by decide +kernel
theorem dX8_forget_0 : decode cX8_forget 0 = .ok (.aload_n 0, 1) := by decide +kernel
theorem dX8_forget_1 : decode cX8_forget 1 = .ok (.getfield 72, 3) := by decide +kernel
theorem dX8_forget_4 : decode cX8_forget 4 = .ok (.getfield 105, 3) := by decide +kernel
theorem dX8_forget_7 : decode cX8_forget 7 = .ok (.istore_n 1, 1) := by decide +kernel
theorem dX8_forget_8 : decode cX8_forget 8 = .ok (.aload_n 0, 1) := by decide +kernel
theorem dX8_forget_9 : decode cX8_forget 9 = .ok (.getfield 72, 3) := by decide +kernel
theorem dX8_forget_12 : decode cX8_forget 12 = .ok (.iconst 0, 1) := by decide +kernel
theorem dX8_forget_13 : decode cX8_forget 13 = .ok (.putfield 105, 3) := by decide +kernel
theorem dX8_forget_16 : decode cX8_forget 16 = .ok (.iload_n 1, 1) := by decide +kernel
theorem dX8_forget_17 : decode cX8_forget 17 = .ok (.ireturn, 1) := by decide +kernel
theorem dX8_tempers_0 : decode cX8_tempers 0 = .ok (.iconst 0, 1) := by decide +kernel
theorem dX8_tempers_1 : decode cX8_tempers 1 = .ok (.istore_n 1, 1) := by decide +kernel
theorem dX8_tempers_2 : decode cX8_tempers 2 = .ok (.iconst 0, 1) := by decide +kernel
theorem dX8_tempers_3 : decode cX8_tempers 3 = .ok (.istore_n 2, 1) := by decide +kernel
theorem dX8_tempers_4 : decode cX8_tempers 4 = .ok (.iload_n 2, 1) := by decide +kernel
theorem dX8_tempers_5 : decode cX8_tempers 5 = .ok (.iconst 3, 1) := by decide +kernel
theorem dX8_tempers_6 : decode cX8_tempers 6 = .ok (.if_icmp .gt 30, 3) := by decide +kernel
theorem dX8_tempers_9 : decode cX8_tempers 9 = .ok (.aload_n 0, 1) := by decide +kernel
theorem dX8_tempers_10 : decode cX8_tempers 10 = .ok (.getfield 72, 3) := by decide +kernel
theorem dX8_tempers_13 : decode cX8_tempers 13 = .ok (.aload_n 0, 1) := by decide +kernel
theorem dX8_tempers_14 : decode cX8_tempers 14 = .ok (.getfield 19, 3) := by decide +kernel
theorem dX8_tempers_17 : decode cX8_tempers 17 = .ok (.iload_n 2, 1) := by decide +kernel
theorem dX8_tempers_18 : decode cX8_tempers 18 = .ok (.invokevirtual 246, 3) := by decide +kernel
theorem dX8_tempers_21 : decode cX8_tempers 21 = .ok (.ifCond .eq 9, 3) := by decide +kernel
theorem dX8_tempers_24 : decode cX8_tempers 24 = .ok (.iload_n 1, 1) := by decide +kernel
theorem dX8_tempers_25 : decode cX8_tempers 25 = .ok (.iconst 1, 1) := by decide +kernel
theorem dX8_tempers_26 : decode cX8_tempers 26 = .ok (.iload_n 2, 1) := by decide +kernel
theorem dX8_tempers_27 : decode cX8_tempers 27 = .ok (.ishl, 1) := by decide +kernel
theorem dX8_tempers_28 : decode cX8_tempers 28 = .ok (.ior, 1) := by decide +kernel
theorem dX8_tempers_29 : decode cX8_tempers 29 = .ok (.istore_n 1, 1) := by decide +kernel
theorem dX8_tempers_30 : decode cX8_tempers 30 = .ok (.iinc 2 1, 3) := by decide +kernel
theorem dX8_tempers_33 : decode cX8_tempers 33 = .ok (.goto (-29), 3) := by decide +kernel
theorem dX8_tempers_36 : decode cX8_tempers 36 = .ok (.iload_n 1, 1) := by decide +kernel
theorem dX8_tempers_37 : decode cX8_tempers 37 = .ok (.ireturn, 1) := by decide +kernel
theorem dX8_which_0 : decode cX8_which 0 = .ok (.aload_n 0, 1) := by decide +kernel
theorem dX8_which_1 : decode cX8_which 1 = .ok (.getfield 19, 3) := by decide +kernel
theorem dX8_which_4 : decode cX8_which 4 = .ok (.iload_n 1, 1) := by decide +kernel
theorem dX8_which_5 : decode cX8_which 5 = .ok (.invokevirtual 128, 3) := by decide +kernel
theorem dX8_which_8 : decode cX8_which 8 = .ok (.ifCond .eq 13, 3) := by decide +kernel
theorem dX8_which_11 : decode cX8_which 11 = .ok (.iload_n 2, 1) := by decide +kernel
theorem dX8_which_12 : decode cX8_which 12 = .ok (.ifCond .lt 9, 3) := by decide +kernel
theorem dX8_which_15 : decode cX8_which 15 = .ok (.iload_n 2, 1) := by decide +kernel
theorem dX8_which_16 : decode cX8_which 16 = .ok (.bipush 30, 2) := by decide +kernel
theorem dX8_which_18 : decode cX8_which 18 = .ok (.if_icmp .le 5, 3) := by decide +kernel
theorem dX8_which_21 : decode cX8_which 21 = .ok (.iconst (-1), 1) := by decide +kernel
theorem dX8_which_22 : decode cX8_which 22 = .ok (.ireturn, 1) := by decide +kernel
theorem dX8_which_23 : decode cX8_which 23 = .ok (.iconst 0, 1) := by decide +kernel
theorem dX8_which_24 : decode cX8_which 24 = .ok (.istore_n 3, 1) := by decide +kernel
theorem dX8_which_25 : decode cX8_which 25 = .ok (.iconst 0, 1) := by decide +kernel
theorem dX8_which_26 : decode cX8_which 26 = .ok (.istore 4, 2) := by decide +kernel
theorem dX8_which_28 : decode cX8_which 28 = .ok (.iload 4, 2) := by decide +kernel
theorem dX8_which_30 : decode cX8_which 30 = .ok (.aload_n 0, 1) := by decide +kernel
theorem dX8_which_31 : decode cX8_which 31 = .ok (.getfield 19, 3) := by decide +kernel
theorem dX8_which_34 : decode cX8_which 34 = .ok (.getfield 207, 3) := by decide +kernel
theorem dX8_which_37 : decode cX8_which 37 = .ok (.if_icmp .ge 30, 3) := by decide +kernel
theorem dX8_which_40 : decode cX8_which 40 = .ok (.aload_n 0, 1) := by decide +kernel
theorem dX8_which_41 : decode cX8_which 41 = .ok (.getfield 19, 3) := by decide +kernel
theorem dX8_which_44 : decode cX8_which 44 = .ok (.iload 4, 2) := by decide +kernel
theorem dX8_which_46 : decode cX8_which 46 = .ok (.iload_n 1, 1) := by decide +kernel
theorem dX8_which_47 : decode cX8_which 47 = .ok (.invokevirtual 250, 3) := by decide +kernel
theorem dX8_which_50 : decode cX8_which 50 = .ok (.iload_n 2, 1) := by decide +kernel
theorem dX8_which_51 : decode cX8_which 51 = .ok (.if_icmp .ne 10, 3) := by decide +kernel
theorem dX8_which_54 : decode cX8_which 54 = .ok (.iload_n 3, 1) := by decide +kernel
theorem dX8_which_55 : decode cX8_which 55 = .ok (.iconst 1, 1) := by decide +kernel
theorem dX8_which_56 : decode cX8_which 56 = .ok (.iload 4, 2) := by decide +kernel
theorem dX8_which_58 : decode cX8_which 58 = .ok (.ishl, 1) := by decide +kernel
theorem dX8_which_59 : decode cX8_which 59 = .ok (.ior, 1) := by decide +kernel
theorem dX8_which_60 : decode cX8_which 60 = .ok (.istore_n 3, 1) := by decide +kernel
theorem dX8_which_61 : decode cX8_which 61 = .ok (.iinc 4 1, 3) := by decide +kernel
theorem dX8_which_64 : decode cX8_which 64 = .ok (.goto (-36), 3) := by decide +kernel
theorem dX8_which_67 : decode cX8_which 67 = .ok (.iload_n 3, 1) := by decide +kernel
theorem dX8_which_68 : decode cX8_which 68 = .ok (.ireturn, 1) := by decide +kernel
theorem dX8_odds_0 : decode cX8_odds 0 = .ok (.aload_n 0, 1) := by decide +kernel
theorem dX8_odds_1 : decode cX8_odds 1 = .ok (.getfield 19, 3) := by decide +kernel
theorem dX8_odds_4 : decode cX8_odds 4 = .ok (.iload_n 1, 1) := by decide +kernel
theorem dX8_odds_5 : decode cX8_odds 5 = .ok (.invokevirtual 108, 3) := by decide +kernel
theorem dX8_odds_8 : decode cX8_odds 8 = .ok (.ifCond .eq 25, 3) := by decide +kernel
theorem dX8_odds_11 : decode cX8_odds 11 = .ok (.aload_n 0, 1) := by decide +kernel
theorem dX8_odds_12 : decode cX8_odds 12 = .ok (.getfield 19, 3) := by decide +kernel
theorem dX8_odds_15 : decode cX8_odds 15 = .ok (.iload_n 2, 1) := by decide +kernel
theorem dX8_odds_16 : decode cX8_odds 16 = .ok (.invokevirtual 128, 3) := by decide +kernel
theorem dX8_odds_19 : decode cX8_odds 19 = .ok (.ifCond .eq 14, 3) := by decide +kernel
theorem dX8_odds_22 : decode cX8_odds 22 = .ok (.iload 5, 2) := by decide +kernel
theorem dX8_odds_24 : decode cX8_odds 24 = .ok (.ifCond .lt 9, 3) := by decide +kernel
theorem dX8_odds_27 : decode cX8_odds 27 = .ok (.iload 5, 2) := by decide +kernel
theorem dX8_odds_29 : decode cX8_odds 29 = .ok (.iconst 1, 1) := by decide +kernel
theorem dX8_odds_30 : decode cX8_odds 30 = .ok (.if_icmp .le 5, 3) := by decide +kernel
theorem dX8_odds_33 : decode cX8_odds 33 = .ok (.iconst (-1), 1) := by decide +kernel
theorem dX8_odds_34 : decode cX8_odds 34 = .ok (.ireturn, 1) := by decide +kernel
theorem dX8_odds_35 : decode cX8_odds 35 = .ok (.iload_n 3, 1) := by decide +kernel
theorem dX8_odds_36 : decode cX8_odds 36 = .ok (.ifCond .lt 21, 3) := by decide +kernel
theorem dX8_odds_39 : decode cX8_odds 39 = .ok (.iload_n 3, 1) := by decide +kernel
theorem dX8_odds_40 : decode cX8_odds 40 = .ok (.bipush 10, 2) := by decide +kernel
theorem dX8_odds_42 : decode cX8_odds 42 = .ok (.if_icmp .gt 15, 3) := by decide +kernel
theorem dX8_odds_45 : decode cX8_odds 45 = .ok (.iload 4, 2) := by decide +kernel
theorem dX8_odds_47 : decode cX8_odds 47 = .ok (.ifCond .lt 10, 3) := by decide +kernel
theorem dX8_odds_50 : decode cX8_odds 50 = .ok (.iload 4, 2) := by decide +kernel
theorem dX8_odds_52 : decode cX8_odds 52 = .ok (.bipush 6, 2) := by decide +kernel
theorem dX8_odds_54 : decode cX8_odds 54 = .ok (.if_icmp .le 5, 3) := by decide +kernel
theorem dX8_odds_57 : decode cX8_odds 57 = .ok (.iconst (-1), 1) := by decide +kernel
theorem dX8_odds_58 : decode cX8_odds 58 = .ok (.ireturn, 1) := by decide +kernel
theorem dX8_odds_59 : decode cX8_odds 59 = .ok (.aload_n 0, 1) := by decide +kernel
theorem dX8_odds_60 : decode cX8_odds 60 = .ok (.getfield 29, 3) := by decide +kernel
theorem dX8_odds_63 : decode cX8_odds 63 = .ok (.iload_n 1, 1) := by decide +kernel
theorem dX8_odds_64 : decode cX8_odds 64 = .ok (.invokevirtual 122, 3) := by decide +kernel
theorem dX8_odds_67 : decode cX8_odds 67 = .ok (.ifCond .eq 6, 3) := by decide +kernel
theorem dX8_odds_70 : decode cX8_odds 70 = .ok (.bipush (-2), 2) := by decide +kernel
theorem dX8_odds_72 : decode cX8_odds 72 = .ok (.ireturn, 1) := by decide +kernel
theorem dX8_odds_73 : decode cX8_odds 73 = .ok (.aload_n 0, 1) := by decide +kernel
theorem dX8_odds_74 : decode cX8_odds 74 = .ok (.iload_n 3, 1) := by decide +kernel
theorem dX8_odds_75 : decode cX8_odds 75 = .ok (.iload 4, 2) := by decide +kernel
theorem dX8_odds_77 : decode cX8_odds 77 = .ok (.invokevirtual 253, 3) := by decide +kernel
theorem dX8_odds_80 : decode cX8_odds 80 = .ok (.istore 6, 2) := by decide +kernel
theorem dX8_odds_82 : decode cX8_odds 82 = .ok (.iconst 0, 1) := by decide +kernel
theorem dX8_odds_83 : decode cX8_odds 83 = .ok (.istore 7, 2) := by decide +kernel
theorem dX8_odds_85 : decode cX8_odds 85 = .ok (.iconst 0, 1) := by decide +kernel
theorem dX8_odds_86 : decode cX8_odds 86 = .ok (.istore 8, 2) := by decide +kernel
theorem dX8_odds_88 : decode cX8_odds 88 = .ok (.iload 8, 2) := by decide +kernel
theorem dX8_odds_90 : decode cX8_odds 90 = .ok (.iload 4, 2) := by decide +kernel
theorem dX8_odds_92 : decode cX8_odds 92 = .ok (.if_icmp .gt 45, 3) := by decide +kernel
theorem dX8_odds_95 : decode cX8_odds 95 = .ok (.iload 8, 2) := by decide +kernel
theorem dX8_odds_97 : decode cX8_odds 97 = .ok (.aload_n 0, 1) := by decide +kernel
theorem dX8_odds_98 : decode cX8_odds 98 = .ok (.getfield 19, 3) := by decide +kernel
theorem dX8_odds_101 : decode cX8_odds 101 = .ok (.iload_n 1, 1) := by decide +kernel
theorem dX8_odds_102 : decode cX8_odds 102 = .ok (.iload_n 2, 1) := by decide +kernel
theorem dX8_odds_103 : decode cX8_odds 103 = .ok (.invokevirtual 250, 3) := by decide +kernel
theorem dX8_odds_106 : decode cX8_odds 106 = .ok (.imul, 1) := by decide +kernel
theorem dX8_odds_107 : decode cX8_odds 107 = .ok (.aload_n 0, 1) := by decide +kernel
theorem dX8_odds_108 : decode cX8_odds 108 = .ok (.getfield 29, 3) := by decide +kernel
theorem dX8_odds_111 : decode cX8_odds 111 = .ok (.getfield 113, 3) := by decide +kernel
theorem dX8_odds_114 : decode cX8_odds 114 = .ok (.iload_n 1, 1) := by decide +kernel
theorem dX8_odds_115 : decode cX8_odds 115 = .ok (.iaload, 1) := by decide +kernel
theorem dX8_odds_116 : decode cX8_odds 116 = .ok (.if_icmp .le 15, 3) := by decide +kernel
theorem dX8_odds_119 : decode cX8_odds 119 = .ok (.iload 7, 2) := by decide +kernel
theorem dX8_odds_121 : decode cX8_odds 121 = .ok (.aload_n 0, 1) := by decide +kernel
theorem dX8_odds_122 : decode cX8_odds 122 = .ok (.getfield 76, 3) := by decide +kernel
theorem dX8_odds_125 : decode cX8_odds 125 = .ok (.iload 8, 2) := by decide +kernel
theorem dX8_odds_127 : decode cX8_odds 127 = .ok (.iaload, 1) := by decide +kernel
theorem dX8_odds_128 : decode cX8_odds 128 = .ok (.iadd, 1) := by decide +kernel
theorem dX8_odds_129 : decode cX8_odds 129 = .ok (.istore 7, 2) := by decide +kernel
theorem dX8_odds_131 : decode cX8_odds 131 = .ok (.iinc 8 1, 3) := by decide +kernel
theorem dX8_odds_134 : decode cX8_odds 134 = .ok (.goto (-46), 3) := by decide +kernel
theorem dX8_odds_137 : decode cX8_odds 137 = .ok (.iload 6, 2) := by decide +kernel
theorem dX8_odds_139 : decode cX8_odds 139 = .ok (.iload 7, 2) := by decide +kernel
theorem dX8_odds_141 : decode cX8_odds 141 = .ok (.invokestatic 256, 3) := by decide +kernel
theorem dX8_odds_144 : decode cX8_odds 144 = .ok (.istore 8, 2) := by decide +kernel
theorem dX8_odds_146 : decode cX8_odds 146 = .ok (.iload 5, 2) := by decide +kernel
theorem dX8_odds_148 : decode cX8_odds 148 = .ok (.ifCond .ne 8, 3) := by decide +kernel
theorem dX8_odds_151 : decode cX8_odds 151 = .ok (.iload 7, 2) := by decide +kernel
theorem dX8_odds_153 : decode cX8_odds 153 = .ok (.goto 5, 3) := by decide +kernel
theorem dX8_odds_156 : decode cX8_odds 156 = .ok (.iload 6, 2) := by decide +kernel
theorem dX8_odds_158 : decode cX8_odds 158 = .ok (.iload 8, 2) := by decide +kernel
theorem dX8_odds_160 : decode cX8_odds 160 = .ok (.idiv, 1) := by decide +kernel
theorem dX8_odds_161 : decode cX8_odds 161 = .ok (.ireturn, 1) := by decide +kernel
theorem dX8_rate_0 : decode cX8_rate 0 = .ok (.iload_n 1, 1) := by decide +kernel
theorem dX8_rate_1 : decode cX8_rate 1 = .ok (.ifCond .lt 19, 3) := by decide +kernel
theorem dX8_rate_4 : decode cX8_rate 4 = .ok (.iload_n 1, 1) := by decide +kernel
theorem dX8_rate_5 : decode cX8_rate 5 = .ok (.iconst 5, 1) := by decide +kernel
theorem dX8_rate_6 : decode cX8_rate 6 = .ok (.if_icmp .gt 14, 3) := by decide +kernel
theorem dX8_rate_9 : decode cX8_rate 9 = .ok (.aload_n 0, 1) := by decide +kernel
theorem dX8_rate_10 : decode cX8_rate 10 = .ok (.getfield 19, 3) := by decide +kernel
theorem dX8_rate_13 : decode cX8_rate 13 = .ok (.iload_n 2, 1) := by decide +kernel
theorem dX8_rate_14 : decode cX8_rate 14 = .ok (.invokevirtual 108, 3) := by decide +kernel
theorem dX8_rate_17 : decode cX8_rate 17 = .ok (.ifCond .ne 6, 3) := by decide +kernel
theorem dX8_rate_20 : decode cX8_rate 20 = .ok (.ldc 112, 2) := by decide +kernel
theorem dX8_rate_22 : decode cX8_rate 22 = .ok (.ireturn, 1) := by decide +kernel
theorem dX8_rate_23 : decode cX8_rate 23 = .ok (.aload_n 0, 1) := by decide +kernel
theorem dX8_rate_24 : decode cX8_rate 24 = .ok (.iload_n 1, 1) := by decide +kernel
theorem dX8_rate_25 : decode cX8_rate 25 = .ok (.iload_n 2, 1) := by decide +kernel
theorem dX8_rate_26 : decode cX8_rate 26 = .ok (.invokevirtual 259, 3) := by decide +kernel
theorem dX8_rate_29 : decode cX8_rate 29 = .ok (.ireturn, 1) := by decide +kernel
theorem dX8_keep_0 : decode cX8_keep 0 = .ok (.iload_n 1, 1) := by decide +kernel
theorem dX8_keep_1 : decode cX8_keep 1 = .ok (.ifCond .lt 8, 3) := by decide +kernel
theorem dX8_keep_4 : decode cX8_keep 4 = .ok (.iload_n 1, 1) := by decide +kernel
theorem dX8_keep_5 : decode cX8_keep 5 = .ok (.iconst 2, 1) := by decide +kernel
theorem dX8_keep_6 : decode cX8_keep 6 = .ok (.if_icmp .lt 5, 3) := by decide +kernel
theorem dX8_keep_9 : decode cX8_keep 9 = .ok (.iconst (-1), 1) := by decide +kernel
theorem dX8_keep_10 : decode cX8_keep 10 = .ok (.ireturn, 1) := by decide +kernel
theorem dX8_keep_11 : decode cX8_keep 11 = .ok (.aload_n 0, 1) := by decide +kernel
theorem dX8_keep_12 : decode cX8_keep 12 = .ok (.getfield 40, 3) := by decide +kernel
theorem dX8_keep_15 : decode cX8_keep 15 = .ok (.iload_n 1, 1) := by decide +kernel
theorem dX8_keep_16 : decode cX8_keep 16 = .ok (.aaload, 1) := by decide +kernel
theorem dX8_keep_17 : decode cX8_keep 17 = .ok (.aload_n 0, 1) := by decide +kernel
theorem dX8_keep_18 : decode cX8_keep 18 = .ok (.getfield 29, 3) := by decide +kernel
theorem dX8_keep_21 : decode cX8_keep 21 = .ok (.invokevirtual 262, 3) := by decide +kernel
theorem dX8_keep_24 : decode cX8_keep 24 = .ok (.aload_n 0, 1) := by decide +kernel
theorem dX8_keep_25 : decode cX8_keep 25 = .ok (.dup, 1) := by decide +kernel
theorem dX8_keep_26 : decode cX8_keep 26 = .ok (.getfield 44, 3) := by decide +kernel
theorem dX8_keep_29 : decode cX8_keep 29 = .ok (.iconst 1, 1) := by decide +kernel
theorem dX8_keep_30 : decode cX8_keep 30 = .ok (.iload_n 1, 1) := by decide +kernel
theorem dX8_keep_31 : decode cX8_keep 31 = .ok (.ishl, 1) := by decide +kernel
theorem dX8_keep_32 : decode cX8_keep 32 = .ok (.ior, 1) := by decide +kernel
theorem dX8_keep_33 : decode cX8_keep 33 = .ok (.putfield 44, 3) := by decide +kernel
theorem dX8_keep_36 : decode cX8_keep 36 = .ok (.aload_n 0, 1) := by decide +kernel
theorem dX8_keep_37 : decode cX8_keep 37 = .ok (.getfield 29, 3) := by decide +kernel
theorem dX8_keep_40 : decode cX8_keep 40 = .ok (.getfield 149, 3) := by decide +kernel
theorem dX8_keep_43 : decode cX8_keep 43 = .ok (.ireturn, 1) := by decide +kernel
theorem dX8_back_0 : decode cX8_back 0 = .ok (.iload_n 1, 1) := by decide +kernel
theorem dX8_back_1 : decode cX8_back 1 = .ok (.ifCond .lt 8, 3) := by decide +kernel
theorem dX8_back_4 : decode cX8_back 4 = .ok (.iload_n 1, 1) := by decide +kernel
theorem dX8_back_5 : decode cX8_back 5 = .ok (.iconst 2, 1) := by decide +kernel
theorem dX8_back_6 : decode cX8_back 6 = .ok (.if_icmp .lt 5, 3) := by decide +kernel
theorem dX8_back_9 : decode cX8_back 9 = .ok (.iconst (-1), 1) := by decide +kernel
theorem dX8_back_10 : decode cX8_back 10 = .ok (.ireturn, 1) := by decide +kernel
theorem dX8_back_11 : decode cX8_back 11 = .ok (.aload_n 0, 1) := by decide +kernel
theorem dX8_back_12 : decode cX8_back 12 = .ok (.getfield 44, 3) := by decide +kernel
theorem dX8_back_15 : decode cX8_back 15 = .ok (.iload_n 1, 1) := by decide +kernel
theorem dX8_back_16 : decode cX8_back 16 = .ok (.ishr, 1) := by decide +kernel
theorem dX8_back_17 : decode cX8_back 17 = .ok (.iconst 1, 1) := by decide +kernel
theorem dX8_back_18 : decode cX8_back 18 = .ok (.iand, 1) := by decide +kernel
theorem dX8_back_19 : decode cX8_back 19 = .ok (.ifCond .ne 6, 3) := by decide +kernel
theorem dX8_back_22 : decode cX8_back 22 = .ok (.bipush (-2), 2) := by decide +kernel
theorem dX8_back_24 : decode cX8_back 24 = .ok (.ireturn, 1) := by decide +kernel
theorem dX8_back_25 : decode cX8_back 25 = .ok (.aload_n 0, 1) := by decide +kernel
theorem dX8_back_26 : decode cX8_back 26 = .ok (.getfield 29, 3) := by decide +kernel
theorem dX8_back_29 : decode cX8_back 29 = .ok (.aload_n 0, 1) := by decide +kernel
theorem dX8_back_30 : decode cX8_back 30 = .ok (.getfield 40, 3) := by decide +kernel
theorem dX8_back_33 : decode cX8_back 33 = .ok (.iload_n 1, 1) := by decide +kernel
theorem dX8_back_34 : decode cX8_back 34 = .ok (.aaload, 1) := by decide +kernel
theorem dX8_back_35 : decode cX8_back 35 = .ok (.invokevirtual 262, 3) := by decide +kernel
theorem dX8_back_38 : decode cX8_back 38 = .ok (.aload_n 0, 1) := by decide +kernel
theorem dX8_back_39 : decode cX8_back 39 = .ok (.getfield 36, 3) := by decide +kernel
theorem dX8_back_42 : decode cX8_back 42 = .ok (.invokevirtual 102, 3) := by decide +kernel
theorem dX8_back_45 : decode cX8_back 45 = .ok (.aload_n 0, 1) := by decide +kernel
theorem dX8_back_46 : decode cX8_back 46 = .ok (.getfield 29, 3) := by decide +kernel
theorem dX8_back_49 : decode cX8_back 49 = .ok (.getfield 149, 3) := by decide +kernel
theorem dX8_back_52 : decode cX8_back 52 = .ok (.ireturn, 1) := by decide +kernel
theorem dX8_count_0 : decode cX8_count 0 = .ok (.iload_n 1, 1) := by decide +kernel
theorem dX8_count_1 : decode cX8_count 1 = .ok (.tableswitch 111 0 7 #[47, 55, 63, 71, 79, 87, 95, 103], 47) := by decide +kernel
theorem dX8_count_48 : decode cX8_count 48 = .ok (.aload_n 0, 1) := by decide +kernel
theorem dX8_count_49 : decode cX8_count 49 = .ok (.getfield 19, 3) := by decide +kernel
theorem dX8_count_52 : decode cX8_count 52 = .ok (.getfield 207, 3) := by decide +kernel
theorem dX8_count_55 : decode cX8_count 55 = .ok (.ireturn, 1) := by decide +kernel
theorem dX8_count_56 : decode cX8_count 56 = .ok (.aload_n 0, 1) := by decide +kernel
theorem dX8_count_57 : decode cX8_count 57 = .ok (.getfield 19, 3) := by decide +kernel
theorem dX8_count_60 : decode cX8_count 60 = .ok (.getfield 265, 3) := by decide +kernel
theorem dX8_count_63 : decode cX8_count 63 = .ok (.ireturn, 1) := by decide +kernel
theorem dX8_count_64 : decode cX8_count 64 = .ok (.aload_n 0, 1) := by decide +kernel
theorem dX8_count_65 : decode cX8_count 65 = .ok (.getfield 19, 3) := by decide +kernel
theorem dX8_count_68 : decode cX8_count 68 = .ok (.getfield 137, 3) := by decide +kernel
theorem dX8_count_71 : decode cX8_count 71 = .ok (.ireturn, 1) := by decide +kernel
theorem dX8_count_72 : decode cX8_count 72 = .ok (.aload_n 0, 1) := by decide +kernel
theorem dX8_count_73 : decode cX8_count 73 = .ok (.getfield 19, 3) := by decide +kernel
theorem dX8_count_76 : decode cX8_count 76 = .ok (.getfield 178, 3) := by decide +kernel
theorem dX8_count_79 : decode cX8_count 79 = .ok (.ireturn, 1) := by decide +kernel
theorem dX8_count_80 : decode cX8_count 80 = .ok (.aload_n 0, 1) := by decide +kernel
theorem dX8_count_81 : decode cX8_count 81 = .ok (.getfield 19, 3) := by decide +kernel
theorem dX8_count_84 : decode cX8_count 84 = .ok (.getfield 268, 3) := by decide +kernel
theorem dX8_count_87 : decode cX8_count 87 = .ok (.ireturn, 1) := by decide +kernel
theorem dX8_count_88 : decode cX8_count 88 = .ok (.aload_n 0, 1) := by decide +kernel
theorem dX8_count_89 : decode cX8_count 89 = .ok (.getfield 19, 3) := by decide +kernel
theorem dX8_count_92 : decode cX8_count 92 = .ok (.getfield 271, 3) := by decide +kernel
theorem dX8_count_95 : decode cX8_count 95 = .ok (.ireturn, 1) := by decide +kernel
theorem dX8_count_96 : decode cX8_count 96 = .ok (.aload_n 0, 1) := by decide +kernel
theorem dX8_count_97 : decode cX8_count 97 = .ok (.getfield 72, 3) := by decide +kernel
theorem dX8_count_100 : decode cX8_count 100 = .ok (.getfield 105, 3) := by decide +kernel
theorem dX8_count_103 : decode cX8_count 103 = .ok (.ireturn, 1) := by decide +kernel
theorem dX8_count_104 : decode cX8_count 104 = .ok (.aload_n 0, 1) := by decide +kernel
theorem dX8_count_105 : decode cX8_count 105 = .ok (.getfield 10, 3) := by decide +kernel
theorem dX8_count_108 : decode cX8_count 108 = .ok (.getfield 84, 3) := by decide +kernel
theorem dX8_count_111 : decode cX8_count 111 = .ok (.ireturn, 1) := by decide +kernel
theorem dX8_count_112 : decode cX8_count 112 = .ok (.iconst (-1), 1) := by decide +kernel
theorem dX8_count_113 : decode cX8_count 113 = .ok (.ireturn, 1) := by decide +kernel
theorem dX8_trace_0 : decode cX8_trace 0 = .ok (.aload_n 0, 1) := by decide +kernel
theorem dX8_trace_1 : decode cX8_trace 1 = .ok (.getfield 80, 3) := by decide +kernel
theorem dX8_trace_4 : decode cX8_trace 4 = .ok (.lreturn, 1) := by decide +kernel
theorem dX8_rateAs_0 : decode cX8_rateAs 0 = .ok (.iload_n 1, 1) := by decide +kernel
theorem dX8_rateAs_1 : decode cX8_rateAs 1 = .ok (.ifCond .lt 8, 3) := by decide +kernel
theorem dX8_rateAs_4 : decode cX8_rateAs 4 = .ok (.iload_n 1, 1) := by decide +kernel
theorem dX8_rateAs_5 : decode cX8_rateAs 5 = .ok (.iconst 5, 1) := by decide +kernel
theorem dX8_rateAs_6 : decode cX8_rateAs 6 = .ok (.if_icmp .le 5, 3) := by decide +kernel
theorem dX8_rateAs_9 : decode cX8_rateAs 9 = .ok (.iconst 0, 1) := by decide +kernel
theorem dX8_rateAs_10 : decode cX8_rateAs 10 = .ok (.ireturn, 1) := by decide +kernel
theorem dX8_rateAs_11 : decode cX8_rateAs 11 = .ok (.aload_n 0, 1) := by decide +kernel
theorem dX8_rateAs_12 : decode cX8_rateAs 12 = .ok (.dup, 1) := by decide +kernel
theorem dX8_rateAs_13 : decode cX8_rateAs 13 = .ok (.getfield 80, 3) := by decide +kernel
theorem dX8_rateAs_16 : decode cX8_rateAs 16 = .ok (.getstatic 274, 3) := by decide +kernel
theorem dX8_rateAs_19 : decode cX8_rateAs 19 = .ok (.iload_n 1, 1) := by decide +kernel
theorem dX8_rateAs_20 : decode cX8_rateAs 20 = .ok (.iaload, 1) := by decide +kernel
theorem dX8_rateAs_21 : decode cX8_rateAs 21 = .ok (.i2l, 1) := by decide +kernel
theorem dX8_rateAs_22 : decode cX8_rateAs 22 = .ok (.ladd, 1) := by decide +kernel
theorem dX8_rateAs_23 : decode cX8_rateAs 23 = .ok (.putfield 80, 3) := by decide +kernel
theorem dX8_rateAs_26 : decode cX8_rateAs 26 = .ok (.iload_n 1, 1) := by decide +kernel
theorem dX8_rateAs_27 : decode cX8_rateAs 27 = .ok (.ifCond .ne 7, 3) := by decide +kernel
theorem dX8_rateAs_30 : decode cX8_rateAs 30 = .ok (.iconst 0, 1) := by decide +kernel
theorem dX8_rateAs_31 : decode cX8_rateAs 31 = .ok (.goto 13, 3) := by decide +kernel
theorem dX8_rateAs_34 : decode cX8_rateAs 34 = .ok (.aload_n 0, 1) := by decide +kernel
theorem dX8_rateAs_35 : decode cX8_rateAs 35 = .ok (.getstatic 277, 3) := by decide +kernel
theorem dX8_rateAs_38 : decode cX8_rateAs 38 = .ok (.iload_n 1, 1) := by decide +kernel
theorem dX8_rateAs_39 : decode cX8_rateAs 39 = .ok (.iaload, 1) := by decide +kernel
theorem dX8_rateAs_40 : decode cX8_rateAs 40 = .ok (.iload_n 2, 1) := by decide +kernel
theorem dX8_rateAs_41 : decode cX8_rateAs 41 = .ok (.invokevirtual 259, 3) := by decide +kernel
theorem dX8_rateAs_44 : decode cX8_rateAs 44 = .ok (.istore_n 3, 1) := by decide +kernel
theorem dX8_rateAs_45 : decode cX8_rateAs 45 = .ok (.iload_n 1, 1) := by decide +kernel
theorem dX8_rateAs_46 : decode cX8_rateAs 46 = .ok (.tableswitch 80 1 5 #[34, 46, 58, 62, 66], 34) := by decide +kernel
theorem dX8_rateAs_80 : decode cX8_rateAs 80 = .ok (.iload_n 3, 1) := by decide +kernel
theorem dX8_rateAs_81 : decode cX8_rateAs 81 = .ok (.aload_n 0, 1) := by decide +kernel
theorem dX8_rateAs_82 : decode cX8_rateAs 82 = .ok (.getfield 19, 3) := by decide +kernel
theorem dX8_rateAs_85 : decode cX8_rateAs 85 = .ok (.getfield 119, 3) := by decide +kernel
theorem dX8_rateAs_88 : decode cX8_rateAs 88 = .ok (.iload_n 2, 1) := by decide +kernel
theorem dX8_rateAs_89 : decode cX8_rateAs 89 = .ok (.iaload, 1) := by decide +kernel
theorem dX8_rateAs_90 : decode cX8_rateAs 90 = .ok (.iadd, 1) := by decide +kernel
theorem dX8_rateAs_91 : decode cX8_rateAs 91 = .ok (.ireturn, 1) := by decide +kernel
theorem dX8_rateAs_92 : decode cX8_rateAs 92 = .ok (.iload_n 3, 1) := by decide +kernel
theorem dX8_rateAs_93 : decode cX8_rateAs 93 = .ok (.aload_n 0, 1) := by decide +kernel
theorem dX8_rateAs_94 : decode cX8_rateAs 94 = .ok (.getfield 19, 3) := by decide +kernel
theorem dX8_rateAs_97 : decode cX8_rateAs 97 = .ok (.getfield 116, 3) := by decide +kernel
theorem dX8_rateAs_100 : decode cX8_rateAs 100 = .ok (.iload_n 2, 1) := by decide +kernel
theorem dX8_rateAs_101 : decode cX8_rateAs 101 = .ok (.iaload, 1) := by decide +kernel
theorem dX8_rateAs_102 : decode cX8_rateAs 102 = .ok (.isub, 1) := by decide +kernel
theorem dX8_rateAs_103 : decode cX8_rateAs 103 = .ok (.ireturn, 1) := by decide +kernel
theorem dX8_rateAs_104 : decode cX8_rateAs 104 = .ok (.iconst 2, 1) := by decide +kernel
theorem dX8_rateAs_105 : decode cX8_rateAs 105 = .ok (.iload_n 3, 1) := by decide +kernel
theorem dX8_rateAs_106 : decode cX8_rateAs 106 = .ok (.imul, 1) := by decide +kernel
theorem dX8_rateAs_107 : decode cX8_rateAs 107 = .ok (.ireturn, 1) := by decide +kernel
theorem dX8_rateAs_108 : decode cX8_rateAs 108 = .ok (.iload_n 3, 1) := by decide +kernel
theorem dX8_rateAs_109 : decode cX8_rateAs 109 = .ok (.iload_n 2, 1) := by decide +kernel
theorem dX8_rateAs_110 : decode cX8_rateAs 110 = .ok (.iadd, 1) := by decide +kernel
theorem dX8_rateAs_111 : decode cX8_rateAs 111 = .ok (.ireturn, 1) := by decide +kernel
theorem dX8_rateAs_112 : decode cX8_rateAs 112 = .ok (.iload_n 3, 1) := by decide +kernel
theorem dX8_rateAs_113 : decode cX8_rateAs 113 = .ok (.aload_n 0, 1) := by decide +kernel
theorem dX8_rateAs_114 : decode cX8_rateAs 114 = .ok (.getfield 29, 3) := by decide +kernel
theorem dX8_rateAs_117 : decode cX8_rateAs 117 = .ok (.aload_n 0, 1) := by decide +kernel
theorem dX8_rateAs_118 : decode cX8_rateAs 118 = .ok (.getfield 19, 3) := by decide +kernel
theorem dX8_rateAs_121 : decode cX8_rateAs 121 = .ok (.invokevirtual 155, 3) := by decide +kernel
theorem dX8_rateAs_124 : decode cX8_rateAs 124 = .ok (.iadd, 1) := by decide +kernel
theorem dX8_rateAs_125 : decode cX8_rateAs 125 = .ok (.ireturn, 1) := by decide +kernel
theorem dX8_rateAs_126 : decode cX8_rateAs 126 = .ok (.aload_n 0, 1) := by decide +kernel
theorem dX8_rateAs_127 : decode cX8_rateAs 127 = .ok (.getfield 29, 3) := by decide +kernel
theorem dX8_rateAs_130 : decode cX8_rateAs 130 = .ok (.getfield 113, 3) := by decide +kernel
theorem dX8_rateAs_133 : decode cX8_rateAs 133 = .ok (.iload_n 2, 1) := by decide +kernel
theorem dX8_rateAs_134 : decode cX8_rateAs 134 = .ok (.iaload, 1) := by decide +kernel
theorem dX8_rateAs_135 : decode cX8_rateAs 135 = .ok (.ireturn, 1) := by decide +kernel
theorem dX8_lossOf_0 : decode cX8_lossOf 0 = .ok (.iload_n 1, 1) := by decide +kernel
theorem dX8_lossOf_1 : decode cX8_lossOf 1 = .ok (.ifCond .eq 9, 3) := by decide +kernel
theorem dX8_lossOf_4 : decode cX8_lossOf 4 = .ok (.iload_n 0, 1) := by decide +kernel
theorem dX8_lossOf_5 : decode cX8_lossOf 5 = .ok (.iconst 2, 1) := by decide +kernel
theorem dX8_lossOf_6 : decode cX8_lossOf 6 = .ok (.idiv, 1) := by decide +kernel
theorem dX8_lossOf_7 : decode cX8_lossOf 7 = .ok (.goto 4, 3) := by decide +kernel
theorem dX8_lossOf_10 : decode cX8_lossOf 10 = .ok (.iload_n 0, 1) := by decide +kernel
theorem dX8_lossOf_11 : decode cX8_lossOf 11 = .ok (.ireturn, 1) := by decide +kernel
theorem dX8_countChances_0 : decode cX8_countChances 0 = .ok (.aload_n 0, 1) := by decide +kernel
theorem dX8_countChances_1 : decode cX8_countChances 1 = .ok (.getfield 76, 3) := by decide +kernel
theorem dX8_countChances_4 : decode cX8_countChances 4 = .ok (.iconst 0, 1) := by decide +kernel
theorem dX8_countChances_5 : decode cX8_countChances 5 = .ok (.invokestatic 280, 3) := by decide +kernel
theorem dX8_countChances_8 : decode cX8_countChances 8 = .ok (.aload_n 0, 1) := by decide +kernel
theorem dX8_countChances_9 : decode cX8_countChances 9 = .ok (.getfield 76, 3) := by decide +kernel
theorem dX8_countChances_12 : decode cX8_countChances 12 = .ok (.iconst 0, 1) := by decide +kernel
theorem dX8_countChances_13 : decode cX8_countChances 13 = .ok (.iconst 1, 1) := by decide +kernel
theorem dX8_countChances_14 : decode cX8_countChances 14 = .ok (.iastore, 1) := by decide +kernel
theorem dX8_countChances_15 : decode cX8_countChances 15 = .ok (.iconst 1, 1) := by decide +kernel
theorem dX8_countChances_16 : decode cX8_countChances 16 = .ok (.istore_n 3, 1) := by decide +kernel
theorem dX8_countChances_17 : decode cX8_countChances 17 = .ok (.iconst 1, 1) := by decide +kernel
theorem dX8_countChances_18 : decode cX8_countChances 18 = .ok (.istore 4, 2) := by decide +kernel
theorem dX8_countChances_20 : decode cX8_countChances 20 = .ok (.iload 4, 2) := by decide +kernel
theorem dX8_countChances_22 : decode cX8_countChances 22 = .ok (.iload_n 2, 1) := by decide +kernel
theorem dX8_countChances_23 : decode cX8_countChances 23 = .ok (.if_icmp .gt 70, 3) := by decide +kernel
theorem dX8_countChances_26 : decode cX8_countChances 26 = .ok (.iload 4, 2) := by decide +kernel
theorem dX8_countChances_28 : decode cX8_countChances 28 = .ok (.istore 5, 2) := by decide +kernel
theorem dX8_countChances_30 : decode cX8_countChances 30 = .ok (.iload 5, 2) := by decide +kernel
theorem dX8_countChances_32 : decode cX8_countChances 32 = .ok (.ifCond .le 40, 3) := by decide +kernel
theorem dX8_countChances_35 : decode cX8_countChances 35 = .ok (.aload_n 0, 1) := by decide +kernel
theorem dX8_countChances_36 : decode cX8_countChances 36 = .ok (.getfield 76, 3) := by decide +kernel
theorem dX8_countChances_39 : decode cX8_countChances 39 = .ok (.iload 5, 2) := by decide +kernel
theorem dX8_countChances_41 : decode cX8_countChances 41 = .ok (.aload_n 0, 1) := by decide +kernel
theorem dX8_countChances_42 : decode cX8_countChances 42 = .ok (.getfield 76, 3) := by decide +kernel
theorem dX8_countChances_45 : decode cX8_countChances 45 = .ok (.iload 5, 2) := by decide +kernel
theorem dX8_countChances_47 : decode cX8_countChances 47 = .ok (.iaload, 1) := by decide +kernel
theorem dX8_countChances_48 : decode cX8_countChances 48 = .ok (.iload_n 1, 1) := by decide +kernel
theorem dX8_countChances_49 : decode cX8_countChances 49 = .ok (.imul, 1) := by decide +kernel
theorem dX8_countChances_50 : decode cX8_countChances 50 = .ok (.aload_n 0, 1) := by decide +kernel
theorem dX8_countChances_51 : decode cX8_countChances 51 = .ok (.getfield 76, 3) := by decide +kernel
theorem dX8_countChances_54 : decode cX8_countChances 54 = .ok (.iload 5, 2) := by decide +kernel
theorem dX8_countChances_56 : decode cX8_countChances 56 = .ok (.iconst 1, 1) := by decide +kernel
theorem dX8_countChances_57 : decode cX8_countChances 57 = .ok (.isub, 1) := by decide +kernel
theorem dX8_countChances_58 : decode cX8_countChances 58 = .ok (.iaload, 1) := by decide +kernel
theorem dX8_countChances_59 : decode cX8_countChances 59 = .ok (.bipush 10, 2) := by decide +kernel
theorem dX8_countChances_61 : decode cX8_countChances 61 = .ok (.iload_n 1, 1) := by decide +kernel
theorem dX8_countChances_62 : decode cX8_countChances 62 = .ok (.isub, 1) := by decide +kernel
theorem dX8_countChances_63 : decode cX8_countChances 63 = .ok (.imul, 1) := by decide +kernel
theorem dX8_countChances_64 : decode cX8_countChances 64 = .ok (.iadd, 1) := by decide +kernel
theorem dX8_countChances_65 : decode cX8_countChances 65 = .ok (.iastore, 1) := by decide +kernel
theorem dX8_countChances_66 : decode cX8_countChances 66 = .ok (.iinc 5 (-1), 3) := by decide +kernel
theorem dX8_countChances_69 : decode cX8_countChances 69 = .ok (.goto (-39), 3) := by decide +kernel
theorem dX8_countChances_72 : decode cX8_countChances 72 = .ok (.aload_n 0, 1) := by decide +kernel
theorem dX8_countChances_73 : decode cX8_countChances 73 = .ok (.getfield 76, 3) := by decide +kernel
theorem dX8_countChances_76 : decode cX8_countChances 76 = .ok (.iconst 0, 1) := by decide +kernel
theorem dX8_countChances_77 : decode cX8_countChances 77 = .ok (.dup2, 1) := by decide +kernel
theorem dX8_countChances_78 : decode cX8_countChances 78 = .ok (.iaload, 1) := by decide +kernel
theorem dX8_countChances_79 : decode cX8_countChances 79 = .ok (.iload_n 1, 1) := by decide +kernel
theorem dX8_countChances_80 : decode cX8_countChances 80 = .ok (.imul, 1) := by decide +kernel
theorem dX8_countChances_81 : decode cX8_countChances 81 = .ok (.iastore, 1) := by decide +kernel
theorem dX8_countChances_82 : decode cX8_countChances 82 = .ok (.iload_n 3, 1) := by decide +kernel
theorem dX8_countChances_83 : decode cX8_countChances 83 = .ok (.bipush 10, 2) := by decide +kernel
theorem dX8_countChances_85 : decode cX8_countChances 85 = .ok (.imul, 1) := by decide +kernel
theorem dX8_countChances_86 : decode cX8_countChances 86 = .ok (.istore_n 3, 1) := by decide +kernel
theorem dX8_countChances_87 : decode cX8_countChances 87 = .ok (.iinc 4 1, 3) := by decide +kernel
theorem dX8_countChances_90 : decode cX8_countChances 90 = .ok (.goto (-70), 3) := by decide +kernel
theorem dX8_countChances_93 : decode cX8_countChances 93 = .ok (.iload_n 3, 1) := by decide +kernel
theorem dX8_countChances_94 : decode cX8_countChances 94 = .ok (.ireturn, 1) := by decide +kernel
theorem dX8_commonDivisor_0 : decode cX8_commonDivisor 0 = .ok (.iload_n 0, 1) := by decide +kernel
theorem dX8_commonDivisor_1 : decode cX8_commonDivisor 1 = .ok (.istore_n 2, 1) := by decide +kernel
theorem dX8_commonDivisor_2 : decode cX8_commonDivisor 2 = .ok (.iload_n 1, 1) := by decide +kernel
theorem dX8_commonDivisor_3 : decode cX8_commonDivisor 3 = .ok (.istore_n 3, 1) := by decide +kernel
theorem dX8_commonDivisor_4 : decode cX8_commonDivisor 4 = .ok (.iconst 0, 1) := by decide +kernel
theorem dX8_commonDivisor_5 : decode cX8_commonDivisor 5 = .ok (.istore 4, 2) := by decide +kernel
theorem dX8_commonDivisor_7 : decode cX8_commonDivisor 7 = .ok (.iload 4, 2) := by decide +kernel
theorem dX8_commonDivisor_9 : decode cX8_commonDivisor 9 = .ok (.bipush 64, 2) := by decide +kernel
theorem dX8_commonDivisor_11 : decode cX8_commonDivisor 11 = .ok (.if_icmp .ge 23, 3) := by decide +kernel
theorem dX8_commonDivisor_14 : decode cX8_commonDivisor 14 = .ok (.iload_n 3, 1) := by decide +kernel
theorem dX8_commonDivisor_15 : decode cX8_commonDivisor 15 = .ok (.ifCond .eq 19, 3) := by decide +kernel
theorem dX8_commonDivisor_18 : decode cX8_commonDivisor 18 = .ok (.iload_n 2, 1) := by decide +kernel
theorem dX8_commonDivisor_19 : decode cX8_commonDivisor 19 = .ok (.iload_n 3, 1) := by decide +kernel
theorem dX8_commonDivisor_20 : decode cX8_commonDivisor 20 = .ok (.irem, 1) := by decide +kernel
theorem dX8_commonDivisor_21 : decode cX8_commonDivisor 21 = .ok (.istore 5, 2) := by decide +kernel
theorem dX8_commonDivisor_23 : decode cX8_commonDivisor 23 = .ok (.iload_n 3, 1) := by decide +kernel
theorem dX8_commonDivisor_24 : decode cX8_commonDivisor 24 = .ok (.istore_n 2, 1) := by decide +kernel
theorem dX8_commonDivisor_25 : decode cX8_commonDivisor 25 = .ok (.iload 5, 2) := by decide +kernel
theorem dX8_commonDivisor_27 : decode cX8_commonDivisor 27 = .ok (.istore_n 3, 1) := by decide +kernel
theorem dX8_commonDivisor_28 : decode cX8_commonDivisor 28 = .ok (.iinc 4 1, 3) := by decide +kernel
theorem dX8_commonDivisor_31 : decode cX8_commonDivisor 31 = .ok (.goto (-24), 3) := by decide +kernel
theorem dX8_commonDivisor_34 : decode cX8_commonDivisor 34 = .ok (.iload_n 2, 1) := by decide +kernel
theorem dX8_commonDivisor_35 : decode cX8_commonDivisor 35 = .ok (.ifCond .ne 7, 3) := by decide +kernel
theorem dX8_commonDivisor_38 : decode cX8_commonDivisor 38 = .ok (.iconst 1, 1) := by decide +kernel
theorem dX8_commonDivisor_39 : decode cX8_commonDivisor 39 = .ok (.goto 4, 3) := by decide +kernel
theorem dX8_commonDivisor_42 : decode cX8_commonDivisor 42 = .ok (.iload_n 2, 1) := by decide +kernel
theorem dX8_commonDivisor_43 : decode cX8_commonDivisor 43 = .ok (.ireturn, 1) := by decide +kernel
theorem dX9_init_0 : decode cX9_init 0 = .ok (.aload_n 0, 1) := by decide +kernel
theorem dX9_init_1 : decode cX9_init 1 = .ok (.invokespecial 1, 3) := by decide +kernel
theorem dX9_init_4 : decode cX9_init 4 = .ok (.aload_n 0, 1) := by decide +kernel
theorem dX9_init_5 : decode cX9_init 5 = .ok (.sipush 200, 3) := by decide +kernel
theorem dX9_init_8 : decode cX9_init 8 = .ok (.newarray .int, 2) := by decide +kernel
theorem dX9_init_10 : decode cX9_init 10 = .ok (.putfield 7, 3) := by decide +kernel
theorem dX9_init_13 : decode cX9_init 13 = .ok (.aload_n 0, 1) := by decide +kernel
theorem dX9_init_14 : decode cX9_init 14 = .ok (.bipush 12, 2) := by decide +kernel
theorem dX9_init_16 : decode cX9_init 16 = .ok (.newarray .int, 2) := by decide +kernel
theorem dX9_init_18 : decode cX9_init 18 = .ok (.putfield 13, 3) := by decide +kernel
theorem dX9_init_21 : decode cX9_init 21 = .ok (.aload_n 0, 1) := by decide +kernel
theorem dX9_init_22 : decode cX9_init 22 = .ok (.iconst 5, 1) := by decide +kernel
theorem dX9_init_23 : decode cX9_init 23 = .ok (.newarray .int, 2) := by decide +kernel
theorem dX9_init_25 : decode cX9_init 25 = .ok (.putfield 16, 3) := by decide +kernel
theorem dX9_init_28 : decode cX9_init 28 = .ok (.aload_n 0, 1) := by decide +kernel
theorem dX9_init_29 : decode cX9_init 29 = .ok (.bipush 10, 2) := by decide +kernel
theorem dX9_init_31 : decode cX9_init 31 = .ok (.newarray .int, 2) := by decide +kernel
theorem dX9_init_33 : decode cX9_init 33 = .ok (.putfield 19, 3) := by decide +kernel
theorem dX9_init_36 : decode cX9_init 36 = .ok (.aload_n 0, 1) := by decide +kernel
theorem dX9_init_37 : decode cX9_init 37 = .ok (.bipush 10, 2) := by decide +kernel
theorem dX9_init_39 : decode cX9_init 39 = .ok (.newarray .int, 2) := by decide +kernel
theorem dX9_init_41 : decode cX9_init 41 = .ok (.putfield 22, 3) := by decide +kernel
theorem dX9_init_44 : decode cX9_init 44 = .ok (.aload_n 0, 1) := by decide +kernel
theorem dX9_init_45 : decode cX9_init 45 = .ok (.bipush 10, 2) := by decide +kernel
theorem dX9_init_47 : decode cX9_init 47 = .ok (.newarray .int, 2) := by decide +kernel
theorem dX9_init_49 : decode cX9_init 49 = .ok (.putfield 25, 3) := by decide +kernel
theorem dX9_init_52 : decode cX9_init 52 = .ok (.aload_n 0, 1) := by decide +kernel
theorem dX9_init_53 : decode cX9_init 53 = .ok (.bipush 10, 2) := by decide +kernel
theorem dX9_init_55 : decode cX9_init 55 = .ok (.newarray .int, 2) := by decide +kernel
theorem dX9_init_57 : decode cX9_init 57 = .ok (.putfield 28, 3) := by decide +kernel
theorem dX9_init_60 : decode cX9_init 60 = .ok (.aload_n 0, 1) := by decide +kernel
theorem dX9_init_61 : decode cX9_init 61 = .ok (.bipush 12, 2) := by decide +kernel
theorem dX9_init_63 : decode cX9_init 63 = .ok (.newarray .int, 2) := by decide +kernel
theorem dX9_init_65 : decode cX9_init 65 = .ok (.putfield 31, 3) := by decide +kernel
theorem dX9_init_68 : decode cX9_init 68 = .ok (.aload_n 0, 1) := by decide +kernel
theorem dX9_init_69 : decode cX9_init 69 = .ok (.bipush 15, 2) := by decide +kernel
theorem dX9_init_71 : decode cX9_init 71 = .ok (.newarray .int, 2) := by decide +kernel
theorem dX9_init_73 : decode cX9_init 73 = .ok (.putfield 34, 3) := by decide +kernel
theorem dX9_init_76 : decode cX9_init 76 = .ok (.aload_n 0, 1) := by decide +kernel
theorem dX9_init_77 : decode cX9_init 77 = .ok (.bipush 30, 2) := by decide +kernel
theorem dX9_init_79 : decode cX9_init 79 = .ok (.newarray .int, 2) := by decide +kernel
theorem dX9_init_81 : decode cX9_init 81 = .ok (.putfield 37, 3) := by decide +kernel
theorem dX9_init_84 : decode cX9_init 84 = .ok (.aload_n 0, 1) := by decide +kernel
theorem dX9_init_85 : decode cX9_init 85 = .ok (.iconst 2, 1) := by decide +kernel
theorem dX9_init_86 : decode cX9_init 86 = .ok (.newarray .boolean, 2) := by decide +kernel
theorem dX9_init_88 : decode cX9_init 88 = .ok (.putfield 40, 3) := by decide +kernel
theorem dX9_init_91 : decode cX9_init 91 = .ok (.aload_n 0, 1) := by decide +kernel
theorem dX9_init_92 : decode cX9_init 92 = .ok (.sipush 150, 3) := by decide +kernel
theorem dX9_init_95 : decode cX9_init 95 = .ok (.newarray .int, 2) := by decide +kernel
theorem dX9_init_97 : decode cX9_init 97 = .ok (.putfield 44, 3) := by decide +kernel
theorem dX9_init_100 : decode cX9_init 100 = .ok (.aload_n 0, 1) := by decide +kernel
theorem dX9_init_101 : decode cX9_init 101 = .ok (.iconst 5, 1) := by decide +kernel
theorem dX9_init_102 : decode cX9_init 102 = .ok (.newarray .int, 2) := by decide +kernel
theorem dX9_init_104 : decode cX9_init 104 = .ok (.putfield 47, 3) := by decide +kernel
theorem dX9_init_107 : decode cX9_init 107 = .ok (.aload_n 0, 1) := by decide +kernel
theorem dX9_init_108 : decode cX9_init 108 = .ok (.iconst 5, 1) := by decide +kernel
theorem dX9_init_109 : decode cX9_init 109 = .ok (.newarray .int, 2) := by decide +kernel
theorem dX9_init_111 : decode cX9_init 111 = .ok (.putfield 50, 3) := by decide +kernel
theorem dX9_init_114 : decode cX9_init 114 = .ok (.aload_n 0, 1) := by decide +kernel
theorem dX9_init_115 : decode cX9_init 115 = .ok (.sipush 186, 3) := by decide +kernel
theorem dX9_init_118 : decode cX9_init 118 = .ok (.newarray .int, 2) := by decide +kernel
theorem dX9_init_120 : decode cX9_init 120 = .ok (.putfield 53, 3) := by decide +kernel
theorem dX9_init_123 : decode cX9_init 123 = .ok (.aload_n 0, 1) := by decide +kernel
theorem dX9_init_124 : decode cX9_init 124 = .ok (.iconst 5, 1) := by decide +kernel
theorem dX9_init_125 : decode cX9_init 125 = .ok (.newarray .int, 2) := by decide +kernel
theorem dX9_init_127 : decode cX9_init 127 = .ok (.putfield 56, 3) := by decide +kernel
theorem dX9_init_130 : decode cX9_init 130 = .ok (.aload_n 0, 1) := by decide +kernel
theorem dX9_init_131 : decode cX9_init 131 = .ok (.iconst 5, 1) := by decide +kernel
theorem dX9_init_132 : decode cX9_init 132 = .ok (.newarray .int, 2) := by decide +kernel
theorem dX9_init_134 : decode cX9_init 134 = .ok (.putfield 59, 3) := by decide +kernel
theorem dX9_init_137 : decode cX9_init 137 = .ok (.aload_n 0, 1) := by decide +kernel
theorem dX9_init_138 : decode cX9_init 138 = .ok (.iconst 5, 1) := by decide +kernel
theorem dX9_init_139 : decode cX9_init 139 = .ok (.newarray .int, 2) := by decide +kernel
theorem dX9_init_141 : decode cX9_init 141 = .ok (.putfield 62, 3) := by decide +kernel
theorem dX9_init_144 : decode cX9_init 144 = .ok (.aload_n 0, 1) := by decide +kernel
theorem dX9_init_145 : decode cX9_init 145 = .ok (.bipush 64, 2) := by decide +kernel
theorem dX9_init_147 : decode cX9_init 147 = .ok (.newarray .int, 2) := by decide +kernel
theorem dX9_init_149 : decode cX9_init 149 = .ok (.putfield 65, 3) := by decide +kernel
theorem dX9_init_152 : decode cX9_init 152 = .ok (.aload_n 0, 1) := by decide +kernel
theorem dX9_init_153 : decode cX9_init 153 = .ok (.invokevirtual 68, 3) := by decide +kernel
theorem dX9_init_156 : decode cX9_init 156 = .ok (.aload_n 0, 1) := by decide +kernel
theorem dX9_init_157 : decode cX9_init 157 = .ok (.invokevirtual 71, 3) := by decide +kernel
theorem dX9_init_160 : decode cX9_init 160 = .ok (.return_, 1) := by decide +kernel
theorem dX9_in_0 : decode cX9_in 0 = .ok (.iload_n 0, 1) := by decide +kernel
theorem dX9_in_1 : decode cX9_in 1 = .ok (.iload_n 1, 1) := by decide +kernel
theorem dX9_in_2 : decode cX9_in 2 = .ok (.if_icmp .lt 12, 3) := by decide +kernel
theorem dX9_in_5 : decode cX9_in 5 = .ok (.iload_n 0, 1) := by decide +kernel
theorem dX9_in_6 : decode cX9_in 6 = .ok (.iload_n 2, 1) := by decide +kernel
theorem dX9_in_7 : decode cX9_in 7 = .ok (.if_icmp .gt 7, 3) := by decide +kernel
theorem dX9_in_10 : decode cX9_in 10 = .ok (.iconst 1, 1) := by decide +kernel
theorem dX9_in_11 : decode cX9_in 11 = .ok (.goto 4, 3) := by decide +kernel
theorem dX9_in_14 : decode cX9_in 14 = .ok (.iconst 0, 1) := by decide +kernel
theorem dX9_in_15 : decode cX9_in 15 = .ok (.ireturn, 1) := by decide +kernel
theorem dX9_ones_0 : decode cX9_ones 0 = .ok (.iconst 0, 1) := by decide +kernel
theorem dX9_ones_1 : decode cX9_ones 1 = .ok (.istore_n 1, 1) := by decide +kernel
theorem dX9_ones_2 : decode cX9_ones 2 = .ok (.iconst 0, 1) := by decide +kernel
theorem dX9_ones_3 : decode cX9_ones 3 = .ok (.istore_n 2, 1) := by decide +kernel
theorem dX9_ones_4 : decode cX9_ones 4 = .ok (.iload_n 2, 1) := by decide +kernel
theorem dX9_ones_5 : decode cX9_ones 5 = .ok (.bipush 6, 2) := by decide +kernel
theorem dX9_ones_7 : decode cX9_ones 7 = .ok (.if_icmp .ge 17, 3) := by decide +kernel
theorem dX9_ones_10 : decode cX9_ones 10 = .ok (.iload_n 1, 1) := by decide +kernel
theorem dX9_ones_11 : decode cX9_ones 11 = .ok (.iload_n 0, 1) := by decide +kernel
theorem dX9_ones_12 : decode cX9_ones 12 = .ok (.iload_n 2, 1) := by decide +kernel
theorem dX9_ones_13 : decode cX9_ones 13 = .ok (.ishr, 1) := by decide +kernel
theorem dX9_ones_14 : decode cX9_ones 14 = .ok (.iconst 1, 1) := by decide +kernel
theorem dX9_ones_15 : decode cX9_ones 15 = .ok (.iand, 1) := by decide +kernel
theorem dX9_ones_16 : decode cX9_ones 16 = .ok (.iadd, 1) := by decide +kernel
theorem dX9_ones_17 : decode cX9_ones 17 = .ok (.istore_n 1, 1) := by decide +kernel
theorem dX9_ones_18 : decode cX9_ones 18 = .ok (.iinc 2 1, 3) := by decide +kernel
theorem dX9_ones_21 : decode cX9_ones 21 = .ok (.goto (-17), 3) := by decide +kernel
theorem dX9_ones_24 : decode cX9_ones 24 = .ok (.iload_n 1, 1) := by decide +kernel
theorem dX9_ones_25 : decode cX9_ones 25 = .ok (.ireturn, 1) := by decide +kernel
theorem dX9_type_0 : decode cX9_type 0 = .ok (.aload_n 0, 1) := by decide +kernel
theorem dX9_type_1 : decode cX9_type 1 = .ok (.iconst 0, 1) := by decide +kernel
theorem dX9_type_2 : decode cX9_type 2 = .ok (.putfield 74, 3) := by decide +kernel
theorem dX9_type_5 : decode cX9_type 5 = .ok (.iload_n 1, 1) := by decide +kernel
theorem dX9_type_6 : decode cX9_type 6 = .ok (.iconst 0, 1) := by decide +kernel
theorem dX9_type_7 : decode cX9_type 7 = .ok (.sipush 255, 3) := by decide +kernel
theorem dX9_type_10 : decode cX9_type 10 = .ok (.invokestatic 78, 3) := by decide +kernel
theorem dX9_type_13 : decode cX9_type 13 = .ok (.ifCond .ne 5, 3) := by decide +kernel
theorem dX9_type_16 : decode cX9_type 16 = .ok (.iconst (-1), 1) := by decide +kernel
theorem dX9_type_17 : decode cX9_type 17 = .ok (.ireturn, 1) := by decide +kernel
theorem dX9_type_18 : decode cX9_type 18 = .ok (.aload_n 0, 1) := by decide +kernel
theorem dX9_type_19 : decode cX9_type 19 = .ok (.getfield 82, 3) := by decide +kernel
theorem dX9_type_22 : decode cX9_type 22 = .ok (.sipush 200, 3) := by decide +kernel
theorem dX9_type_25 : decode cX9_type 25 = .ok (.if_icmp .ne 6, 3) := by decide +kernel
theorem dX9_type_28 : decode cX9_type 28 = .ok (.bipush (-3), 2) := by decide +kernel
theorem dX9_type_30 : decode cX9_type 30 = .ok (.ireturn, 1) := by decide +kernel
theorem dX9_type_31 : decode cX9_type 31 = .ok (.aload_n 0, 1) := by decide +kernel
theorem dX9_type_32 : decode cX9_type 32 = .ok (.getfield 7, 3) := by decide +kernel
theorem dX9_type_35 : decode cX9_type 35 = .ok (.aload_n 0, 1) := by decide +kernel
theorem dX9_type_36 : decode cX9_type 36 = .ok (.getfield 82, 3) := by decide +kernel
theorem dX9_type_39 : decode cX9_type 39 = .ok (.iload_n 1, 1) := by decide +kernel
theorem dX9_type_40 : decode cX9_type 40 = .ok (.iastore, 1) := by decide +kernel
theorem dX9_type_41 : decode cX9_type 41 = .ok (.aload_n 0, 1) := by decide +kernel
theorem dX9_type_42 : decode cX9_type 42 = .ok (.dup, 1) := by decide +kernel
theorem dX9_type_43 : decode cX9_type 43 = .ok (.getfield 82, 3) := by decide +kernel
theorem dX9_type_46 : decode cX9_type 46 = .ok (.iconst 1, 1) := by decide +kernel
theorem dX9_type_47 : decode cX9_type 47 = .ok (.iadd, 1) := by decide +kernel
theorem dX9_type_48 : decode cX9_type 48 = .ok (.putfield 82, 3) := by decide +kernel
theorem dX9_type_51 : decode cX9_type 51 = .ok (.aload_n 0, 1) := by decide +kernel
theorem dX9_type_52 : decode cX9_type 52 = .ok (.getfield 82, 3) := by decide +kernel
theorem dX9_type_55 : decode cX9_type 55 = .ok (.ireturn, 1) := by decide +kernel
theorem dX9_clear_0 : decode cX9_clear 0 = .ok (.aload_n 0, 1) := by decide +kernel
theorem dX9_clear_1 : decode cX9_clear 1 = .ok (.iconst 0, 1) := by decide +kernel
theorem dX9_clear_2 : decode cX9_clear 2 = .ok (.putfield 74, 3) := by decide +kernel
theorem dX9_clear_5 : decode cX9_clear 5 = .ok (.aload_n 0, 1) := by decide +kernel
theorem dX9_clear_6 : decode cX9_clear 6 = .ok (.getfield 82, 3) := by decide +kernel
theorem dX9_clear_9 : decode cX9_clear 9 = .ok (.istore_n 1, 1) := by decide +kernel
theorem dX9_clear_10 : decode cX9_clear 10 = .ok (.aload_n 0, 1) := by decide +kernel
theorem dX9_clear_11 : decode cX9_clear 11 = .ok (.iconst 0, 1) := by decide +kernel
theorem dX9_clear_12 : decode cX9_clear 12 = .ok (.putfield 82, 3) := by decide +kernel
theorem dX9_clear_15 : decode cX9_clear 15 = .ok (.iload_n 1, 1) := by decide +kernel
theorem dX9_clear_16 : decode cX9_clear 16 = .ok (.ireturn, 1) := by decide +kernel
theorem dX9_letterAt_0 : decode cX9_letterAt 0 = .ok (.iload_n 1, 1) := by decide +kernel
theorem dX9_letterAt_1 : decode cX9_letterAt 1 = .ok (.aload_n 0, 1) := by decide +kernel
theorem dX9_letterAt_2 : decode cX9_letterAt 2 = .ok (.getfield 82, 3) := by decide +kernel
theorem dX9_letterAt_5 : decode cX9_letterAt 5 = .ok (.if_icmp .ge 12, 3) := by decide +kernel
theorem dX9_letterAt_8 : decode cX9_letterAt 8 = .ok (.aload_n 0, 1) := by decide +kernel
theorem dX9_letterAt_9 : decode cX9_letterAt 9 = .ok (.getfield 7, 3) := by decide +kernel
theorem dX9_letterAt_12 : decode cX9_letterAt 12 = .ok (.iload_n 1, 1) := by decide +kernel
theorem dX9_letterAt_13 : decode cX9_letterAt 13 = .ok (.iaload, 1) := by decide +kernel
theorem dX9_letterAt_14 : decode cX9_letterAt 14 = .ok (.goto 4, 3) := by decide +kernel
theorem dX9_letterAt_17 : decode cX9_letterAt 17 = .ok (.iconst (-1), 1) := by decide +kernel
theorem dX9_letterAt_18 : decode cX9_letterAt 18 = .ok (.ireturn, 1) := by decide +kernel
theorem dX9_isLetter_0 : decode cX9_isLetter 0 = .ok (.iload_n 0, 1) := by decide +kernel
theorem dX9_isLetter_1 : decode cX9_isLetter 1 = .ok (.bipush 114, 2) := by decide +kernel
theorem dX9_isLetter_3 : decode cX9_isLetter 3 = .ok (.if_icmp .eq 33, 3) := by decide +kernel
theorem dX9_isLetter_6 : decode cX9_isLetter 6 = .ok (.iload_n 0, 1) := by decide +kernel
theorem dX9_isLetter_7 : decode cX9_isLetter 7 = .ok (.bipush 100, 2) := by decide +kernel
theorem dX9_isLetter_9 : decode cX9_isLetter 9 = .ok (.if_icmp .eq 27, 3) := by decide +kernel
theorem dX9_isLetter_12 : decode cX9_isLetter 12 = .ok (.iload_n 0, 1) := by decide +kernel
theorem dX9_isLetter_13 : decode cX9_isLetter 13 = .ok (.bipush 115, 2) := by decide +kernel
theorem dX9_isLetter_15 : decode cX9_isLetter 15 = .ok (.if_icmp .eq 21, 3) := by decide +kernel
theorem dX9_isLetter_18 : decode cX9_isLetter 18 = .ok (.iload_n 0, 1) := by decide +kernel
theorem dX9_isLetter_19 : decode cX9_isLetter 19 = .ok (.bipush 99, 2) := by decide +kernel
theorem dX9_isLetter_21 : decode cX9_isLetter 21 = .ok (.if_icmp .eq 15, 3) := by decide +kernel
theorem dX9_isLetter_24 : decode cX9_isLetter 24 = .ok (.iload_n 0, 1) := by decide +kernel
theorem dX9_isLetter_25 : decode cX9_isLetter 25 = .ok (.bipush 119, 2) := by decide +kernel
theorem dX9_isLetter_27 : decode cX9_isLetter 27 = .ok (.if_icmp .eq 9, 3) := by decide +kernel
theorem dX9_isLetter_30 : decode cX9_isLetter 30 = .ok (.iload_n 0, 1) := by decide +kernel
theorem dX9_isLetter_31 : decode cX9_isLetter 31 = .ok (.bipush 110, 2) := by decide +kernel
theorem dX9_isLetter_33 : decode cX9_isLetter 33 = .ok (.if_icmp .ne 7, 3) := by decide +kernel
theorem dX9_isLetter_36 : decode cX9_isLetter 36 = .ok (.iconst 1, 1) := by decide +kernel
theorem dX9_isLetter_37 : decode cX9_isLetter 37 = .ok (.goto 4, 3) := by decide +kernel
theorem dX9_isLetter_40 : decode cX9_isLetter 40 = .ok (.iconst 0, 1) := by decide +kernel
theorem dX9_isLetter_41 : decode cX9_isLetter 41 = .ok (.ireturn, 1) := by decide +kernel
theorem dX9_advances_0 : decode cX9_advances 0 = .ok (.aload_n 0, 1) := by decide +kernel
theorem dX9_advances_1 : decode cX9_advances 1 = .ok (.aload_n 0, 1) := by decide +kernel
theorem dX9_advances_2 : decode cX9_advances 2 = .ok (.getfield 85, 3) := by decide +kernel
theorem dX9_advances_5 : decode cX9_advances 5 = .ok (.invokevirtual 88, 3) := by decide +kernel
theorem dX9_advances_8 : decode cX9_advances 8 = .ok (.bipush 32, 2) := by decide +kernel
theorem dX9_advances_10 : decode cX9_advances 10 = .ok (.if_icmp .ne 16, 3) := by decide +kernel
theorem dX9_advances_13 : decode cX9_advances 13 = .ok (.aload_n 0, 1) := by decide +kernel
theorem dX9_advances_14 : decode cX9_advances 14 = .ok (.dup, 1) := by decide +kernel
theorem dX9_advances_15 : decode cX9_advances 15 = .ok (.getfield 85, 3) := by decide +kernel
theorem dX9_advances_18 : decode cX9_advances 18 = .ok (.iconst 1, 1) := by decide +kernel
theorem dX9_advances_19 : decode cX9_advances 19 = .ok (.iadd, 1) := by decide +kernel
theorem dX9_advances_20 : decode cX9_advances 20 = .ok (.putfield 85, 3) := by decide +kernel
theorem dX9_advances_23 : decode cX9_advances 23 = .ok (.goto (-23), 3) := by decide +kernel
theorem dX9_advances_26 : decode cX9_advances 26 = .ok (.aload_n 0, 1) := by decide +kernel
theorem dX9_advances_27 : decode cX9_advances 27 = .ok (.aload_n 0, 1) := by decide +kernel
theorem dX9_advances_28 : decode cX9_advances 28 = .ok (.getfield 85, 3) := by decide +kernel
theorem dX9_advances_31 : decode cX9_advances 31 = .ok (.putfield 92, 3) := by decide +kernel
theorem dX9_advances_34 : decode cX9_advances 34 = .ok (.aload_n 0, 1) := by decide +kernel
theorem dX9_advances_35 : decode cX9_advances 35 = .ok (.aload_n 0, 1) := by decide +kernel
theorem dX9_advances_36 : decode cX9_advances 36 = .ok (.getfield 85, 3) := by decide +kernel
theorem dX9_advances_39 : decode cX9_advances 39 = .ok (.invokevirtual 88, 3) := by decide +kernel
theorem dX9_advances_42 : decode cX9_advances 42 = .ok (.istore_n 1, 1) := by decide +kernel
theorem dX9_advances_43 : decode cX9_advances 43 = .ok (.iload_n 1, 1) := by decide +kernel
theorem dX9_advances_44 : decode cX9_advances 44 = .ok (.ifCond .ge 11, 3) := by decide +kernel
theorem dX9_advances_47 : decode cX9_advances 47 = .ok (.aload_n 0, 1) := by decide +kernel
theorem dX9_advances_48 : decode cX9_advances 48 = .ok (.iconst 0, 1) := by decide +kernel
theorem dX9_advances_49 : decode cX9_advances 49 = .ok (.putfield 95, 3) := by decide +kernel
theorem dX9_advances_52 : decode cX9_advances 52 = .ok (.goto 172, 3) := by decide +kernel
theorem dX9_advances_55 : decode cX9_advances 55 = .ok (.iload_n 1, 1) := by decide +kernel
theorem dX9_advances_56 : decode cX9_advances 56 = .ok (.bipush 48, 2) := by decide +kernel
theorem dX9_advances_58 : decode cX9_advances 58 = .ok (.bipush 57, 2) := by decide +kernel
theorem dX9_advances_60 : decode cX9_advances 60 = .ok (.invokestatic 78, 3) := by decide +kernel
theorem dX9_advances_63 : decode cX9_advances 63 = .ok (.ifCond .eq 120, 3) := by decide +kernel
theorem dX9_advances_66 : decode cX9_advances 66 = .ok (.aload_n 0, 1) := by decide +kernel
theorem dX9_advances_67 : decode cX9_advances 67 = .ok (.iconst 0, 1) := by decide +kernel
theorem dX9_advances_68 : decode cX9_advances 68 = .ok (.putfield 98, 3) := by decide +kernel
theorem dX9_advances_71 : decode cX9_advances 71 = .ok (.aload_n 0, 1) := by decide +kernel
theorem dX9_advances_72 : decode cX9_advances 72 = .ok (.aload_n 0, 1) := by decide +kernel
theorem dX9_advances_73 : decode cX9_advances 73 = .ok (.getfield 85, 3) := by decide +kernel
theorem dX9_advances_76 : decode cX9_advances 76 = .ok (.invokevirtual 88, 3) := by decide +kernel
theorem dX9_advances_79 : decode cX9_advances 79 = .ok (.bipush 48, 2) := by decide +kernel
theorem dX9_advances_81 : decode cX9_advances 81 = .ok (.bipush 57, 2) := by decide +kernel
theorem dX9_advances_83 : decode cX9_advances 83 = .ok (.invokestatic 78, 3) := by decide +kernel
theorem dX9_advances_86 : decode cX9_advances 86 = .ok (.ifCond .eq 56, 3) := by decide +kernel
theorem dX9_advances_89 : decode cX9_advances 89 = .ok (.aload_n 0, 1) := by decide +kernel
theorem dX9_advances_90 : decode cX9_advances 90 = .ok (.aload_n 0, 1) := by decide +kernel
theorem dX9_advances_91 : decode cX9_advances 91 = .ok (.getfield 98, 3) := by decide +kernel
theorem dX9_advances_94 : decode cX9_advances 94 = .ok (.sipush 500, 3) := by decide +kernel
theorem dX9_advances_97 : decode cX9_advances 97 = .ok (.if_icmp .le 10, 3) := by decide +kernel
theorem dX9_advances_100 : decode cX9_advances 100 = .ok (.aload_n 0, 1) := by decide +kernel
theorem dX9_advances_101 : decode cX9_advances 101 = .ok (.getfield 98, 3) := by decide +kernel
theorem dX9_advances_104 : decode cX9_advances 104 = .ok (.goto 22, 3) := by decide +kernel
theorem dX9_advances_107 : decode cX9_advances 107 = .ok (.bipush 10, 2) := by decide +kernel
theorem dX9_advances_109 : decode cX9_advances 109 = .ok (.aload_n 0, 1) := by decide +kernel
theorem dX9_advances_110 : decode cX9_advances 110 = .ok (.getfield 98, 3) := by decide +kernel
theorem dX9_advances_113 : decode cX9_advances 113 = .ok (.imul, 1) := by decide +kernel
theorem dX9_advances_114 : decode cX9_advances 114 = .ok (.aload_n 0, 1) := by decide +kernel
theorem dX9_advances_115 : decode cX9_advances 115 = .ok (.aload_n 0, 1) := by decide +kernel
theorem dX9_advances_116 : decode cX9_advances 116 = .ok (.getfield 85, 3) := by decide +kernel
theorem dX9_advances_119 : decode cX9_advances 119 = .ok (.invokevirtual 88, 3) := by decide +kernel
theorem dX9_advances_122 : decode cX9_advances 122 = .ok (.iadd, 1) := by decide +kernel
theorem dX9_advances_123 : decode cX9_advances 123 = .ok (.bipush 48, 2) := by decide +kernel
theorem dX9_advances_125 : decode cX9_advances 125 = .ok (.isub, 1) := by decide +kernel
theorem dX9_advances_126 : decode cX9_advances 126 = .ok (.putfield 98, 3) := by decide +kernel
theorem dX9_advances_129 : decode cX9_advances 129 = .ok (.aload_n 0, 1) := by decide +kernel
theorem dX9_advances_130 : decode cX9_advances 130 = .ok (.dup, 1) := by decide +kernel
theorem dX9_advances_131 : decode cX9_advances 131 = .ok (.getfield 85, 3) := by decide +kernel
theorem dX9_advances_134 : decode cX9_advances 134 = .ok (.iconst 1, 1) := by decide +kernel
theorem dX9_advances_135 : decode cX9_advances 135 = .ok (.iadd, 1) := by decide +kernel
theorem dX9_advances_136 : decode cX9_advances 136 = .ok (.putfield 85, 3) := by decide +kernel
theorem dX9_advances_139 : decode cX9_advances 139 = .ok (.goto (-68), 3) := by decide +kernel
theorem dX9_advances_142 : decode cX9_advances 142 = .ok (.aload_n 0, 1) := by decide +kernel
theorem dX9_advances_143 : decode cX9_advances 143 = .ok (.aload_n 0, 1) := by decide +kernel
theorem dX9_advances_144 : decode cX9_advances 144 = .ok (.getfield 98, 3) := by decide +kernel
theorem dX9_advances_147 : decode cX9_advances 147 = .ok (.sipush 500, 3) := by decide +kernel
theorem dX9_advances_150 : decode cX9_advances 150 = .ok (.if_icmp .gt 22, 3) := by decide +kernel
theorem dX9_advances_153 : decode cX9_advances 153 = .ok (.iload_n 1, 1) := by decide +kernel
theorem dX9_advances_154 : decode cX9_advances 154 = .ok (.bipush 48, 2) := by decide +kernel
theorem dX9_advances_156 : decode cX9_advances 156 = .ok (.if_icmp .ne 20, 3) := by decide +kernel
theorem dX9_advances_159 : decode cX9_advances 159 = .ok (.aload_n 0, 1) := by decide +kernel
theorem dX9_advances_160 : decode cX9_advances 160 = .ok (.getfield 85, 3) := by decide +kernel
theorem dX9_advances_163 : decode cX9_advances 163 = .ok (.aload_n 0, 1) := by decide +kernel
theorem dX9_advances_164 : decode cX9_advances 164 = .ok (.getfield 92, 3) := by decide +kernel
theorem dX9_advances_167 : decode cX9_advances 167 = .ok (.isub, 1) := by decide +kernel
theorem dX9_advances_168 : decode cX9_advances 168 = .ok (.iconst 1, 1) := by decide +kernel
theorem dX9_advances_169 : decode cX9_advances 169 = .ok (.if_icmp .le 7, 3) := by decide +kernel
theorem dX9_advances_172 : decode cX9_advances 172 = .ok (.iconst 4, 1) := by decide +kernel
theorem dX9_advances_173 : decode cX9_advances 173 = .ok (.goto 4, 3) := by decide +kernel
theorem dX9_advances_176 : decode cX9_advances 176 = .ok (.iconst 2, 1) := by decide +kernel
theorem dX9_advances_177 : decode cX9_advances 177 = .ok (.putfield 95, 3) := by decide +kernel
theorem dX9_advances_180 : decode cX9_advances 180 = .ok (.goto 44, 3) := by decide +kernel
theorem dX9_advances_183 : decode cX9_advances 183 = .ok (.aload_n 0, 1) := by decide +kernel
theorem dX9_advances_184 : decode cX9_advances 184 = .ok (.dup, 1) := by decide +kernel
theorem dX9_advances_185 : decode cX9_advances 185 = .ok (.getfield 85, 3) := by decide +kernel
theorem dX9_advances_188 : decode cX9_advances 188 = .ok (.iconst 1, 1) := by decide +kernel
theorem dX9_advances_189 : decode cX9_advances 189 = .ok (.iadd, 1) := by decide +kernel
theorem dX9_advances_190 : decode cX9_advances 190 = .ok (.putfield 85, 3) := by decide +kernel
theorem dX9_advances_193 : decode cX9_advances 193 = .ok (.aload_n 0, 1) := by decide +kernel
theorem dX9_advances_194 : decode cX9_advances 194 = .ok (.iload_n 1, 1) := by decide +kernel
theorem dX9_advances_195 : decode cX9_advances 195 = .ok (.putfield 98, 3) := by decide +kernel
theorem dX9_advances_198 : decode cX9_advances 198 = .ok (.aload_n 0, 1) := by decide +kernel
theorem dX9_advances_199 : decode cX9_advances 199 = .ok (.iload_n 1, 1) := by decide +kernel
theorem dX9_advances_200 : decode cX9_advances 200 = .ok (.bipush 59, 2) := by decide +kernel
theorem dX9_advances_202 : decode cX9_advances 202 = .ok (.if_icmp .ne 7, 3) := by decide +kernel
theorem dX9_advances_205 : decode cX9_advances 205 = .ok (.iconst 3, 1) := by decide +kernel
theorem dX9_advances_206 : decode cX9_advances 206 = .ok (.goto 15, 3) := by decide +kernel
theorem dX9_advances_209 : decode cX9_advances 209 = .ok (.iload_n 1, 1) := by decide +kernel
theorem dX9_advances_210 : decode cX9_advances 210 = .ok (.invokestatic 101, 3) := by decide +kernel
theorem dX9_advances_213 : decode cX9_advances 213 = .ok (.ifCond .eq 7, 3) := by decide +kernel
theorem dX9_advances_216 : decode cX9_advances 216 = .ok (.iconst 1, 1) := by decide +kernel
theorem dX9_advances_217 : decode cX9_advances 217 = .ok (.goto 4, 3) := by decide +kernel
theorem dX9_advances_220 : decode cX9_advances 220 = .ok (.iconst 4, 1) := by decide +kernel
theorem dX9_advances_221 : decode cX9_advances 221 = .ok (.putfield 95, 3) := by decide +kernel
theorem dX9_advances_224 : decode cX9_advances 224 = .ok (.return_, 1) := by decide +kernel
theorem dX9_isWell_0 : decode cX9_isWell 0 = .ok (.aload_n 0, 1) := by decide +kernel
theorem dX9_isWell_1 : decode cX9_isWell 1 = .ok (.getfield 105, 3) := by decide +kernel
theorem dX9_isWell_4 : decode cX9_isWell 4 = .ok (.ifCond .ge 7, 3) := by decide +kernel
theorem dX9_isWell_7 : decode cX9_isWell 7 = .ok (.iconst 1, 1) := by decide +kernel
theorem dX9_isWell_8 : decode cX9_isWell 8 = .ok (.goto 4, 3) := by decide +kernel
theorem dX9_isWell_11 : decode cX9_isWell 11 = .ok (.iconst 0, 1) := by decide +kernel
theorem dX9_isWell_12 : decode cX9_isWell 12 = .ok (.ireturn, 1) := by decide +kernel
theorem dX9_takes_0 : decode cX9_takes 0 = .ok (.aload_n 0, 1) := by decide +kernel
theorem dX9_takes_1 : decode cX9_takes 1 = .ok (.invokevirtual 108, 3) := by decide +kernel
theorem dX9_takes_4 : decode cX9_takes 4 = .ok (.ifCond .ne 5, 3) := by decide +kernel
theorem dX9_takes_7 : decode cX9_takes 7 = .ok (.iconst 0, 1) := by decide +kernel
theorem dX9_takes_8 : decode cX9_takes 8 = .ok (.ireturn, 1) := by decide +kernel
theorem dX9_takes_9 : decode cX9_takes 9 = .ok (.iload_n 1, 1) := by decide +kernel
theorem dX9_takes_10 : decode cX9_takes 10 = .ok (.ifCond .ne 13, 3) := by decide +kernel
theorem dX9_takes_13 : decode cX9_takes 13 = .ok (.aload_n 0, 1) := by decide +kernel
theorem dX9_takes_14 : decode cX9_takes 14 = .ok (.aload_n 0, 1) := by decide +kernel
theorem dX9_takes_15 : decode cX9_takes 15 = .ok (.getfield 92, 3) := by decide +kernel
theorem dX9_takes_18 : decode cX9_takes 18 = .ok (.putfield 105, 3) := by decide +kernel
theorem dX9_takes_21 : decode cX9_takes 21 = .ok (.iconst 0, 1) := by decide +kernel
theorem dX9_takes_22 : decode cX9_takes 22 = .ok (.ireturn, 1) := by decide +kernel
theorem dX9_takes_23 : decode cX9_takes 23 = .ok (.aload_n 0, 1) := by decide +kernel
theorem dX9_takes_24 : decode cX9_takes 24 = .ok (.getfield 98, 3) := by decide +kernel
theorem dX9_takes_27 : decode cX9_takes 27 = .ok (.istore_n 2, 1) := by decide +kernel
theorem dX9_takes_28 : decode cX9_takes 28 = .ok (.aload_n 0, 1) := by decide +kernel
theorem dX9_takes_29 : decode cX9_takes 29 = .ok (.invokevirtual 112, 3) := by decide +kernel
theorem dX9_takes_32 : decode cX9_takes 32 = .ok (.iload_n 2, 1) := by decide +kernel
theorem dX9_takes_33 : decode cX9_takes 33 = .ok (.ireturn, 1) := by decide +kernel
theorem dX9_number_0 : decode cX9_number 0 = .ok (.aload_n 0, 1) := by decide +kernel
theorem dX9_number_1 : decode cX9_number 1 = .ok (.aload_n 0, 1) := by decide +kernel
theorem dX9_number_2 : decode cX9_number 2 = .ok (.getfield 95, 3) := by decide +kernel
theorem dX9_number_5 : decode cX9_number 5 = .ok (.iconst 2, 1) := by decide +kernel
theorem dX9_number_6 : decode cX9_number 6 = .ok (.if_icmp .ne 19, 3) := by decide +kernel
theorem dX9_number_9 : decode cX9_number 9 = .ok (.aload_n 0, 1) := by decide +kernel
theorem dX9_number_10 : decode cX9_number 10 = .ok (.getfield 98, 3) := by decide +kernel
theorem dX9_number_13 : decode cX9_number 13 = .ok (.iload_n 1, 1) := by decide +kernel
theorem dX9_number_14 : decode cX9_number 14 = .ok (.iload_n 2, 1) := by decide +kernel
theorem dX9_number_15 : decode cX9_number 15 = .ok (.invokestatic 78, 3) := by decide +kernel
theorem dX9_number_18 : decode cX9_number 18 = .ok (.ifCond .eq 7, 3) := by decide +kernel
theorem dX9_number_21 : decode cX9_number 21 = .ok (.iconst 1, 1) := by decide +kernel
theorem dX9_number_22 : decode cX9_number 22 = .ok (.goto 4, 3) := by decide +kernel
theorem dX9_number_25 : decode cX9_number 25 = .ok (.iconst 0, 1) := by decide +kernel
theorem dX9_number_26 : decode cX9_number 26 = .ok (.invokevirtual 115, 3) := by decide +kernel
theorem dX9_number_29 : decode cX9_number 29 = .ok (.ireturn, 1) := by decide +kernel
theorem dX9_begins_0 : decode cX9_begins 0 = .ok (.aload_n 0, 1) := by decide +kernel
theorem dX9_begins_1 : decode cX9_begins 1 = .ok (.iconst 0, 1) := by decide +kernel
theorem dX9_begins_2 : decode cX9_begins 2 = .ok (.putfield 119, 3) := by decide +kernel
theorem dX9_begins_5 : decode cX9_begins 5 = .ok (.aload_n 0, 1) := by decide +kernel
theorem dX9_begins_6 : decode cX9_begins 6 = .ok (.getfield 13, 3) := by decide +kernel
theorem dX9_begins_9 : decode cX9_begins 9 = .ok (.bipush 6, 2) := by decide +kernel
theorem dX9_begins_11 : decode cX9_begins 11 = .ok (.iconst 0, 1) := by decide +kernel
theorem dX9_begins_12 : decode cX9_begins 12 = .ok (.iastore, 1) := by decide +kernel
theorem dX9_begins_13 : decode cX9_begins 13 = .ok (.aload_n 0, 1) := by decide +kernel
theorem dX9_begins_14 : decode cX9_begins 14 = .ok (.getfield 13, 3) := by decide +kernel
theorem dX9_begins_17 : decode cX9_begins 17 = .ok (.bipush 7, 2) := by decide +kernel
theorem dX9_begins_19 : decode cX9_begins 19 = .ok (.iconst 0, 1) := by decide +kernel
theorem dX9_begins_20 : decode cX9_begins 20 = .ok (.iastore, 1) := by decide +kernel
theorem dX9_begins_21 : decode cX9_begins 21 = .ok (.aload_n 0, 1) := by decide +kernel
theorem dX9_begins_22 : decode cX9_begins 22 = .ok (.getfield 13, 3) := by decide +kernel
theorem dX9_begins_25 : decode cX9_begins 25 = .ok (.bipush 8, 2) := by decide +kernel
theorem dX9_begins_27 : decode cX9_begins 27 = .ok (.iconst 0, 1) := by decide +kernel
theorem dX9_begins_28 : decode cX9_begins 28 = .ok (.iastore, 1) := by decide +kernel
theorem dX9_begins_29 : decode cX9_begins 29 = .ok (.aload_n 0, 1) := by decide +kernel
theorem dX9_begins_30 : decode cX9_begins 30 = .ok (.getfield 13, 3) := by decide +kernel
theorem dX9_begins_33 : decode cX9_begins 33 = .ok (.bipush 9, 2) := by decide +kernel
theorem dX9_begins_35 : decode cX9_begins 35 = .ok (.iconst 0, 1) := by decide +kernel
theorem dX9_begins_36 : decode cX9_begins 36 = .ok (.iastore, 1) := by decide +kernel
theorem dX9_begins_37 : decode cX9_begins 37 = .ok (.aload_n 0, 1) := by decide +kernel
theorem dX9_begins_38 : decode cX9_begins 38 = .ok (.getfield 13, 3) := by decide +kernel
theorem dX9_begins_41 : decode cX9_begins 41 = .ok (.bipush 10, 2) := by decide +kernel
theorem dX9_begins_43 : decode cX9_begins 43 = .ok (.iconst 1, 1) := by decide +kernel
theorem dX9_begins_44 : decode cX9_begins 44 = .ok (.iastore, 1) := by decide +kernel
theorem dX9_begins_45 : decode cX9_begins 45 = .ok (.aload_n 0, 1) := by decide +kernel
theorem dX9_begins_46 : decode cX9_begins 46 = .ok (.getfield 13, 3) := by decide +kernel
theorem dX9_begins_49 : decode cX9_begins 49 = .ok (.bipush 11, 2) := by decide +kernel
theorem dX9_begins_51 : decode cX9_begins 51 = .ok (.bipush 120, 2) := by decide +kernel
theorem dX9_begins_53 : decode cX9_begins 53 = .ok (.iastore, 1) := by decide +kernel
theorem dX9_begins_54 : decode cX9_begins 54 = .ok (.return_, 1) := by decide +kernel
theorem dX9_bitOf_0 : decode cX9_bitOf 0 = .ok (.iload_n 0, 1) := by decide +kernel
theorem dX9_bitOf_1 : decode cX9_bitOf 1 = .ok (.bipush 99, 2) := by decide +kernel
theorem dX9_bitOf_3 : decode cX9_bitOf 3 = .ok (.if_icmp .ne 7, 3) := by decide +kernel
theorem dX9_bitOf_6 : decode cX9_bitOf 6 = .ok (.iconst 1, 1) := by decide +kernel
theorem dX9_bitOf_7 : decode cX9_bitOf 7 = .ok (.goto 14, 3) := by decide +kernel
theorem dX9_bitOf_10 : decode cX9_bitOf 10 = .ok (.iload_n 0, 1) := by decide +kernel
theorem dX9_bitOf_11 : decode cX9_bitOf 11 = .ok (.bipush 119, 2) := by decide +kernel
theorem dX9_bitOf_13 : decode cX9_bitOf 13 = .ok (.if_icmp .ne 7, 3) := by decide +kernel
theorem dX9_bitOf_16 : decode cX9_bitOf 16 = .ok (.iconst 2, 1) := by decide +kernel
theorem dX9_bitOf_17 : decode cX9_bitOf 17 = .ok (.goto 4, 3) := by decide +kernel
theorem dX9_bitOf_20 : decode cX9_bitOf 20 = .ok (.iconst 4, 1) := by decide +kernel
theorem dX9_bitOf_21 : decode cX9_bitOf 21 = .ok (.ireturn, 1) := by decide +kernel
theorem dX9_mayBegin_0 : decode cX9_mayBegin 0 = .ok (.aload_n 0, 1) := by decide +kernel
theorem dX9_mayBegin_1 : decode cX9_mayBegin 1 = .ok (.getfield 98, 3) := by decide +kernel
theorem dX9_mayBegin_4 : decode cX9_mayBegin 4 = .ok (.bipush 114, 2) := by decide +kernel
theorem dX9_mayBegin_6 : decode cX9_mayBegin 6 = .ok (.if_icmp .eq 12, 3) := by decide +kernel
theorem dX9_mayBegin_9 : decode cX9_mayBegin 9 = .ok (.aload_n 0, 1) := by decide +kernel
theorem dX9_mayBegin_10 : decode cX9_mayBegin 10 = .ok (.getfield 98, 3) := by decide +kernel
theorem dX9_mayBegin_13 : decode cX9_mayBegin 13 = .ok (.bipush 100, 2) := by decide +kernel
theorem dX9_mayBegin_15 : decode cX9_mayBegin 15 = .ok (.if_icmp .ne 35, 3) := by decide +kernel
theorem dX9_mayBegin_18 : decode cX9_mayBegin 18 = .ok (.aload_n 0, 1) := by decide +kernel
theorem dX9_mayBegin_19 : decode cX9_mayBegin 19 = .ok (.getfield 13, 3) := by decide +kernel
theorem dX9_mayBegin_22 : decode cX9_mayBegin 22 = .ok (.bipush 6, 2) := by decide +kernel
theorem dX9_mayBegin_24 : decode cX9_mayBegin 24 = .ok (.aload_n 0, 1) := by decide +kernel
theorem dX9_mayBegin_25 : decode cX9_mayBegin 25 = .ok (.getfield 98, 3) := by decide +kernel
theorem dX9_mayBegin_28 : decode cX9_mayBegin 28 = .ok (.bipush 114, 2) := by decide +kernel
theorem dX9_mayBegin_30 : decode cX9_mayBegin 30 = .ok (.if_icmp .ne 7, 3) := by decide +kernel
theorem dX9_mayBegin_33 : decode cX9_mayBegin 33 = .ok (.iconst 0, 1) := by decide +kernel
theorem dX9_mayBegin_34 : decode cX9_mayBegin 34 = .ok (.goto 4, 3) := by decide +kernel
theorem dX9_mayBegin_37 : decode cX9_mayBegin 37 = .ok (.iconst 1, 1) := by decide +kernel
theorem dX9_mayBegin_38 : decode cX9_mayBegin 38 = .ok (.iadd, 1) := by decide +kernel
theorem dX9_mayBegin_39 : decode cX9_mayBegin 39 = .ok (.iaload, 1) := by decide +kernel
theorem dX9_mayBegin_40 : decode cX9_mayBegin 40 = .ok (.iconst 5, 1) := by decide +kernel
theorem dX9_mayBegin_41 : decode cX9_mayBegin 41 = .ok (.if_icmp .ge 7, 3) := by decide +kernel
end
section
theorem dX9_mayBegin_44 : decode cX9_mayBegin 44 = .ok (.iconst 1, 1) := by decide +kernel
theorem dX9_mayBegin_45 : decode cX9_mayBegin 45 = .ok (.goto 4, 3) := by decide +kernel
theorem dX9_mayBegin_48 : decode cX9_mayBegin 48 = .ok (.iconst 0, 1) := by decide +kernel
theorem dX9_mayBegin_49 : decode cX9_mayBegin 49 = .ok (.ireturn, 1) := by decide +kernel
theorem dX9_mayBegin_50 : decode cX9_mayBegin 50 = .ok (.aload_n 0, 1) := by decide +kernel
theorem dX9_mayBegin_51 : decode cX9_mayBegin 51 = .ok (.getfield 98, 3) := by decide +kernel
theorem dX9_mayBegin_54 : decode cX9_mayBegin 54 = .ok (.bipush 115, 2) := by decide +kernel
theorem dX9_mayBegin_56 : decode cX9_mayBegin 56 = .ok (.if_icmp .ne 23, 3) := by decide +kernel
theorem dX9_mayBegin_59 : decode cX9_mayBegin 59 = .ok (.aload_n 0, 1) := by decide +kernel
theorem dX9_mayBegin_60 : decode cX9_mayBegin 60 = .ok (.getfield 13, 3) := by decide +kernel
theorem dX9_mayBegin_63 : decode cX9_mayBegin 63 = .ok (.bipush 8, 2) := by decide +kernel
theorem dX9_mayBegin_65 : decode cX9_mayBegin 65 = .ok (.iaload, 1) := by decide +kernel
theorem dX9_mayBegin_66 : decode cX9_mayBegin 66 = .ok (.bipush 6, 2) := by decide +kernel
theorem dX9_mayBegin_68 : decode cX9_mayBegin 68 = .ok (.if_icmp .ge 7, 3) := by decide +kernel
theorem dX9_mayBegin_71 : decode cX9_mayBegin 71 = .ok (.iconst 1, 1) := by decide +kernel
theorem dX9_mayBegin_72 : decode cX9_mayBegin 72 = .ok (.goto 27, 3) := by decide +kernel
theorem dX9_mayBegin_75 : decode cX9_mayBegin 75 = .ok (.iconst 0, 1) := by decide +kernel
theorem dX9_mayBegin_76 : decode cX9_mayBegin 76 = .ok (.goto 23, 3) := by decide +kernel
theorem dX9_mayBegin_79 : decode cX9_mayBegin 79 = .ok (.aload_n 0, 1) := by decide +kernel
theorem dX9_mayBegin_80 : decode cX9_mayBegin 80 = .ok (.getfield 119, 3) := by decide +kernel
theorem dX9_mayBegin_83 : decode cX9_mayBegin 83 = .ok (.aload_n 0, 1) := by decide +kernel
theorem dX9_mayBegin_84 : decode cX9_mayBegin 84 = .ok (.getfield 98, 3) := by decide +kernel
theorem dX9_mayBegin_87 : decode cX9_mayBegin 87 = .ok (.invokestatic 122, 3) := by decide +kernel
theorem dX9_mayBegin_90 : decode cX9_mayBegin 90 = .ok (.iand, 1) := by decide +kernel
theorem dX9_mayBegin_91 : decode cX9_mayBegin 91 = .ok (.ifCond .ne 7, 3) := by decide +kernel
theorem dX9_mayBegin_94 : decode cX9_mayBegin 94 = .ok (.iconst 1, 1) := by decide +kernel
theorem dX9_mayBegin_95 : decode cX9_mayBegin 95 = .ok (.goto 4, 3) := by decide +kernel
theorem dX9_mayBegin_98 : decode cX9_mayBegin 98 = .ok (.iconst 0, 1) := by decide +kernel
theorem dX9_mayBegin_99 : decode cX9_mayBegin 99 = .ok (.ireturn, 1) := by decide +kernel
theorem dX9_readsItem_0 : decode cX9_readsItem 0 = .ok (.iload_n 1, 1) := by decide +kernel
theorem dX9_readsItem_1 : decode cX9_readsItem 1 = .ok (.bipush 114, 2) := by decide +kernel
theorem dX9_readsItem_3 : decode cX9_readsItem 3 = .ok (.if_icmp .ne 67, 3) := by decide +kernel
theorem dX9_readsItem_6 : decode cX9_readsItem 6 = .ok (.aload_n 0, 1) := by decide +kernel
theorem dX9_readsItem_7 : decode cX9_readsItem 7 = .ok (.getfield 13, 3) := by decide +kernel
theorem dX9_readsItem_10 : decode cX9_readsItem 10 = .ok (.bipush 6, 2) := by decide +kernel
theorem dX9_readsItem_12 : decode cX9_readsItem 12 = .ok (.iaload, 1) := by decide +kernel
theorem dX9_readsItem_13 : decode cX9_readsItem 13 = .ok (.istore_n 2, 1) := by decide +kernel
theorem dX9_readsItem_14 : decode cX9_readsItem 14 = .ok (.aload_n 0, 1) := by decide +kernel
theorem dX9_readsItem_15 : decode cX9_readsItem 15 = .ok (.getfield 16, 3) := by decide +kernel
theorem dX9_readsItem_18 : decode cX9_readsItem 18 = .ok (.iload_n 2, 1) := by decide +kernel
theorem dX9_readsItem_19 : decode cX9_readsItem 19 = .ok (.aload_n 0, 1) := by decide +kernel
theorem dX9_readsItem_20 : decode cX9_readsItem 20 = .ok (.iconst 0, 1) := by decide +kernel
theorem dX9_readsItem_21 : decode cX9_readsItem 21 = .ok (.bipush 30, 2) := by decide +kernel
theorem dX9_readsItem_23 : decode cX9_readsItem 23 = .ok (.invokevirtual 125, 3) := by decide +kernel
theorem dX9_readsItem_26 : decode cX9_readsItem 26 = .ok (.iastore, 1) := by decide +kernel
theorem dX9_readsItem_27 : decode cX9_readsItem 27 = .ok (.aload_n 0, 1) := by decide +kernel
theorem dX9_readsItem_28 : decode cX9_readsItem 28 = .ok (.getfield 19, 3) := by decide +kernel
theorem dX9_readsItem_31 : decode cX9_readsItem 31 = .ok (.iconst 5, 1) := by decide +kernel
theorem dX9_readsItem_32 : decode cX9_readsItem 32 = .ok (.iload_n 2, 1) := by decide +kernel
theorem dX9_readsItem_33 : decode cX9_readsItem 33 = .ok (.iadd, 1) := by decide +kernel
theorem dX9_readsItem_34 : decode cX9_readsItem 34 = .ok (.aload_n 0, 1) := by decide +kernel
theorem dX9_readsItem_35 : decode cX9_readsItem 35 = .ok (.iconst 0, 1) := by decide +kernel
theorem dX9_readsItem_36 : decode cX9_readsItem 36 = .ok (.iconst 3, 1) := by decide +kernel
theorem dX9_readsItem_37 : decode cX9_readsItem 37 = .ok (.invokevirtual 125, 3) := by decide +kernel
theorem dX9_readsItem_40 : decode cX9_readsItem 40 = .ok (.iastore, 1) := by decide +kernel
theorem dX9_readsItem_41 : decode cX9_readsItem 41 = .ok (.aload_n 0, 1) := by decide +kernel
theorem dX9_readsItem_42 : decode cX9_readsItem 42 = .ok (.getfield 22, 3) := by decide +kernel
theorem dX9_readsItem_45 : decode cX9_readsItem 45 = .ok (.iconst 5, 1) := by decide +kernel
theorem dX9_readsItem_46 : decode cX9_readsItem 46 = .ok (.iload_n 2, 1) := by decide +kernel
theorem dX9_readsItem_47 : decode cX9_readsItem 47 = .ok (.iadd, 1) := by decide +kernel
theorem dX9_readsItem_48 : decode cX9_readsItem 48 = .ok (.aload_n 0, 1) := by decide +kernel
theorem dX9_readsItem_49 : decode cX9_readsItem 49 = .ok (.iconst 0, 1) := by decide +kernel
theorem dX9_readsItem_50 : decode cX9_readsItem 50 = .ok (.bipush 99, 2) := by decide +kernel
theorem dX9_readsItem_52 : decode cX9_readsItem 52 = .ok (.invokevirtual 125, 3) := by decide +kernel
theorem dX9_readsItem_55 : decode cX9_readsItem 55 = .ok (.iastore, 1) := by decide +kernel
theorem dX9_readsItem_56 : decode cX9_readsItem 56 = .ok (.aload_n 0, 1) := by decide +kernel
theorem dX9_readsItem_57 : decode cX9_readsItem 57 = .ok (.getfield 13, 3) := by decide +kernel
theorem dX9_readsItem_60 : decode cX9_readsItem 60 = .ok (.bipush 6, 2) := by decide +kernel
theorem dX9_readsItem_62 : decode cX9_readsItem 62 = .ok (.dup2, 1) := by decide +kernel
theorem dX9_readsItem_63 : decode cX9_readsItem 63 = .ok (.iaload, 1) := by decide +kernel
theorem dX9_readsItem_64 : decode cX9_readsItem 64 = .ok (.iconst 1, 1) := by decide +kernel
theorem dX9_readsItem_65 : decode cX9_readsItem 65 = .ok (.iadd, 1) := by decide +kernel
theorem dX9_readsItem_66 : decode cX9_readsItem 66 = .ok (.iastore, 1) := by decide +kernel
theorem dX9_readsItem_67 : decode cX9_readsItem 67 = .ok (.goto 182, 3) := by decide +kernel
theorem dX9_readsItem_70 : decode cX9_readsItem 70 = .ok (.iload_n 1, 1) := by decide +kernel
theorem dX9_readsItem_71 : decode cX9_readsItem 71 = .ok (.bipush 100, 2) := by decide +kernel
theorem dX9_readsItem_73 : decode cX9_readsItem 73 = .ok (.if_icmp .ne 53, 3) := by decide +kernel
theorem dX9_readsItem_76 : decode cX9_readsItem 76 = .ok (.iconst 5, 1) := by decide +kernel
theorem dX9_readsItem_77 : decode cX9_readsItem 77 = .ok (.aload_n 0, 1) := by decide +kernel
theorem dX9_readsItem_78 : decode cX9_readsItem 78 = .ok (.getfield 13, 3) := by decide +kernel
theorem dX9_readsItem_81 : decode cX9_readsItem 81 = .ok (.bipush 7, 2) := by decide +kernel
theorem dX9_readsItem_83 : decode cX9_readsItem 83 = .ok (.iaload, 1) := by decide +kernel
theorem dX9_readsItem_84 : decode cX9_readsItem 84 = .ok (.iadd, 1) := by decide +kernel
theorem dX9_readsItem_85 : decode cX9_readsItem 85 = .ok (.istore_n 2, 1) := by decide +kernel
theorem dX9_readsItem_86 : decode cX9_readsItem 86 = .ok (.aload_n 0, 1) := by decide +kernel
theorem dX9_readsItem_87 : decode cX9_readsItem 87 = .ok (.getfield 25, 3) := by decide +kernel
theorem dX9_readsItem_90 : decode cX9_readsItem 90 = .ok (.iload_n 2, 1) := by decide +kernel
theorem dX9_readsItem_91 : decode cX9_readsItem 91 = .ok (.aload_n 0, 1) := by decide +kernel
theorem dX9_readsItem_92 : decode cX9_readsItem 92 = .ok (.iconst 0, 1) := by decide +kernel
theorem dX9_readsItem_93 : decode cX9_readsItem 93 = .ok (.bipush 9, 2) := by decide +kernel
theorem dX9_readsItem_95 : decode cX9_readsItem 95 = .ok (.invokevirtual 125, 3) := by decide +kernel
theorem dX9_readsItem_98 : decode cX9_readsItem 98 = .ok (.iastore, 1) := by decide +kernel
theorem dX9_readsItem_99 : decode cX9_readsItem 99 = .ok (.aload_n 0, 1) := by decide +kernel
theorem dX9_readsItem_100 : decode cX9_readsItem 100 = .ok (.getfield 28, 3) := by decide +kernel
theorem dX9_readsItem_103 : decode cX9_readsItem 103 = .ok (.iload_n 2, 1) := by decide +kernel
theorem dX9_readsItem_104 : decode cX9_readsItem 104 = .ok (.aload_n 0, 1) := by decide +kernel
theorem dX9_readsItem_105 : decode cX9_readsItem 105 = .ok (.iconst 1, 1) := by decide +kernel
theorem dX9_readsItem_106 : decode cX9_readsItem 106 = .ok (.bipush 30, 2) := by decide +kernel
theorem dX9_readsItem_108 : decode cX9_readsItem 108 = .ok (.invokevirtual 125, 3) := by decide +kernel
theorem dX9_readsItem_111 : decode cX9_readsItem 111 = .ok (.iastore, 1) := by decide +kernel
theorem dX9_readsItem_112 : decode cX9_readsItem 112 = .ok (.aload_n 0, 1) := by decide +kernel
theorem dX9_readsItem_113 : decode cX9_readsItem 113 = .ok (.getfield 13, 3) := by decide +kernel
theorem dX9_readsItem_116 : decode cX9_readsItem 116 = .ok (.bipush 7, 2) := by decide +kernel
theorem dX9_readsItem_118 : decode cX9_readsItem 118 = .ok (.dup2, 1) := by decide +kernel
theorem dX9_readsItem_119 : decode cX9_readsItem 119 = .ok (.iaload, 1) := by decide +kernel
theorem dX9_readsItem_120 : decode cX9_readsItem 120 = .ok (.iconst 1, 1) := by decide +kernel
theorem dX9_readsItem_121 : decode cX9_readsItem 121 = .ok (.iadd, 1) := by decide +kernel
theorem dX9_readsItem_122 : decode cX9_readsItem 122 = .ok (.iastore, 1) := by decide +kernel
theorem dX9_readsItem_123 : decode cX9_readsItem 123 = .ok (.goto 126, 3) := by decide +kernel
theorem dX9_readsItem_126 : decode cX9_readsItem 126 = .ok (.iload_n 1, 1) := by decide +kernel
theorem dX9_readsItem_127 : decode cX9_readsItem 127 = .ok (.bipush 115, 2) := by decide +kernel
theorem dX9_readsItem_129 : decode cX9_readsItem 129 = .ok (.if_icmp .ne 39, 3) := by decide +kernel
theorem dX9_readsItem_132 : decode cX9_readsItem 132 = .ok (.aload_n 0, 1) := by decide +kernel
theorem dX9_readsItem_133 : decode cX9_readsItem 133 = .ok (.getfield 31, 3) := by decide +kernel
theorem dX9_readsItem_136 : decode cX9_readsItem 136 = .ok (.bipush 6, 2) := by decide +kernel
theorem dX9_readsItem_138 : decode cX9_readsItem 138 = .ok (.aload_n 0, 1) := by decide +kernel
theorem dX9_readsItem_139 : decode cX9_readsItem 139 = .ok (.getfield 13, 3) := by decide +kernel
theorem dX9_readsItem_142 : decode cX9_readsItem 142 = .ok (.bipush 8, 2) := by decide +kernel
theorem dX9_readsItem_144 : decode cX9_readsItem 144 = .ok (.iaload, 1) := by decide +kernel
theorem dX9_readsItem_145 : decode cX9_readsItem 145 = .ok (.iadd, 1) := by decide +kernel
theorem dX9_readsItem_146 : decode cX9_readsItem 146 = .ok (.aload_n 0, 1) := by decide +kernel
theorem dX9_readsItem_147 : decode cX9_readsItem 147 = .ok (.iconst 0, 1) := by decide +kernel
theorem dX9_readsItem_148 : decode cX9_readsItem 148 = .ok (.bipush 31, 2) := by decide +kernel
theorem dX9_readsItem_150 : decode cX9_readsItem 150 = .ok (.invokevirtual 125, 3) := by decide +kernel
theorem dX9_readsItem_153 : decode cX9_readsItem 153 = .ok (.iastore, 1) := by decide +kernel
theorem dX9_readsItem_154 : decode cX9_readsItem 154 = .ok (.aload_n 0, 1) := by decide +kernel
theorem dX9_readsItem_155 : decode cX9_readsItem 155 = .ok (.getfield 13, 3) := by decide +kernel
theorem dX9_readsItem_158 : decode cX9_readsItem 158 = .ok (.bipush 8, 2) := by decide +kernel
theorem dX9_readsItem_160 : decode cX9_readsItem 160 = .ok (.dup2, 1) := by decide +kernel
theorem dX9_readsItem_161 : decode cX9_readsItem 161 = .ok (.iaload, 1) := by decide +kernel
theorem dX9_readsItem_162 : decode cX9_readsItem 162 = .ok (.iconst 1, 1) := by decide +kernel
theorem dX9_readsItem_163 : decode cX9_readsItem 163 = .ok (.iadd, 1) := by decide +kernel
theorem dX9_readsItem_164 : decode cX9_readsItem 164 = .ok (.iastore, 1) := by decide +kernel
theorem dX9_readsItem_165 : decode cX9_readsItem 165 = .ok (.goto 84, 3) := by decide +kernel
theorem dX9_readsItem_168 : decode cX9_readsItem 168 = .ok (.iload_n 1, 1) := by decide +kernel
theorem dX9_readsItem_169 : decode cX9_readsItem 169 = .ok (.bipush 99, 2) := by decide +kernel
theorem dX9_readsItem_171 : decode cX9_readsItem 171 = .ok (.if_icmp .ne 27, 3) := by decide +kernel
theorem dX9_readsItem_174 : decode cX9_readsItem 174 = .ok (.aload_n 0, 1) := by decide +kernel
theorem dX9_readsItem_175 : decode cX9_readsItem 175 = .ok (.getfield 13, 3) := by decide +kernel
theorem dX9_readsItem_178 : decode cX9_readsItem 178 = .ok (.bipush 9, 2) := by decide +kernel
theorem dX9_readsItem_180 : decode cX9_readsItem 180 = .ok (.aload_n 0, 1) := by decide +kernel
theorem dX9_readsItem_181 : decode cX9_readsItem 181 = .ok (.iconst 0, 1) := by decide +kernel
theorem dX9_readsItem_182 : decode cX9_readsItem 182 = .ok (.aload_n 0, 1) := by decide +kernel
theorem dX9_readsItem_183 : decode cX9_readsItem 183 = .ok (.getfield 13, 3) := by decide +kernel
theorem dX9_readsItem_186 : decode cX9_readsItem 186 = .ok (.bipush 8, 2) := by decide +kernel
theorem dX9_readsItem_188 : decode cX9_readsItem 188 = .ok (.iaload, 1) := by decide +kernel
theorem dX9_readsItem_189 : decode cX9_readsItem 189 = .ok (.iconst 1, 1) := by decide +kernel
theorem dX9_readsItem_190 : decode cX9_readsItem 190 = .ok (.isub, 1) := by decide +kernel
theorem dX9_readsItem_191 : decode cX9_readsItem 191 = .ok (.invokevirtual 125, 3) := by decide +kernel
theorem dX9_readsItem_194 : decode cX9_readsItem 194 = .ok (.iastore, 1) := by decide +kernel
theorem dX9_readsItem_195 : decode cX9_readsItem 195 = .ok (.goto 41, 3) := by decide +kernel
theorem dX9_readsItem_198 : decode cX9_readsItem 198 = .ok (.iload_n 1, 1) := by decide +kernel
theorem dX9_readsItem_199 : decode cX9_readsItem 199 = .ok (.bipush 119, 2) := by decide +kernel
theorem dX9_readsItem_201 : decode cX9_readsItem 201 = .ok (.if_icmp .ne 20, 3) := by decide +kernel
theorem dX9_readsItem_204 : decode cX9_readsItem 204 = .ok (.aload_n 0, 1) := by decide +kernel
theorem dX9_readsItem_205 : decode cX9_readsItem 205 = .ok (.getfield 13, 3) := by decide +kernel
theorem dX9_readsItem_208 : decode cX9_readsItem 208 = .ok (.bipush 10, 2) := by decide +kernel
theorem dX9_readsItem_210 : decode cX9_readsItem 210 = .ok (.aload_n 0, 1) := by decide +kernel
theorem dX9_readsItem_211 : decode cX9_readsItem 211 = .ok (.iconst 0, 1) := by decide +kernel
theorem dX9_readsItem_212 : decode cX9_readsItem 212 = .ok (.bipush 9, 2) := by decide +kernel
theorem dX9_readsItem_214 : decode cX9_readsItem 214 = .ok (.invokevirtual 125, 3) := by decide +kernel
theorem dX9_readsItem_217 : decode cX9_readsItem 217 = .ok (.iastore, 1) := by decide +kernel
theorem dX9_readsItem_218 : decode cX9_readsItem 218 = .ok (.goto 18, 3) := by decide +kernel
theorem dX9_readsItem_221 : decode cX9_readsItem 221 = .ok (.aload_n 0, 1) := by decide +kernel
theorem dX9_readsItem_222 : decode cX9_readsItem 222 = .ok (.getfield 13, 3) := by decide +kernel
theorem dX9_readsItem_225 : decode cX9_readsItem 225 = .ok (.bipush 11, 2) := by decide +kernel
theorem dX9_readsItem_227 : decode cX9_readsItem 227 = .ok (.aload_n 0, 1) := by decide +kernel
theorem dX9_readsItem_228 : decode cX9_readsItem 228 = .ok (.iconst 1, 1) := by decide +kernel
theorem dX9_readsItem_229 : decode cX9_readsItem 229 = .ok (.sipush 500, 3) := by decide +kernel
theorem dX9_readsItem_232 : decode cX9_readsItem 232 = .ok (.invokevirtual 125, 3) := by decide +kernel
theorem dX9_readsItem_235 : decode cX9_readsItem 235 = .ok (.iastore, 1) := by decide +kernel
theorem dX9_readsItem_236 : decode cX9_readsItem 236 = .ok (.aload_n 0, 1) := by decide +kernel
theorem dX9_readsItem_237 : decode cX9_readsItem 237 = .ok (.dup, 1) := by decide +kernel
theorem dX9_readsItem_238 : decode cX9_readsItem 238 = .ok (.getfield 119, 3) := by decide +kernel
theorem dX9_readsItem_241 : decode cX9_readsItem 241 = .ok (.iload_n 1, 1) := by decide +kernel
theorem dX9_readsItem_242 : decode cX9_readsItem 242 = .ok (.invokestatic 122, 3) := by decide +kernel
theorem dX9_readsItem_245 : decode cX9_readsItem 245 = .ok (.ior, 1) := by decide +kernel
theorem dX9_readsItem_246 : decode cX9_readsItem 246 = .ok (.putfield 119, 3) := by decide +kernel
theorem dX9_readsItem_249 : decode cX9_readsItem 249 = .ok (.return_, 1) := by decide +kernel
theorem dX9_house_0 : decode cX9_house 0 = .ok (.aload_n 0, 1) := by decide +kernel
theorem dX9_house_1 : decode cX9_house 1 = .ok (.iconst 0, 1) := by decide +kernel
theorem dX9_house_2 : decode cX9_house 2 = .ok (.putfield 74, 3) := by decide +kernel
theorem dX9_house_5 : decode cX9_house 5 = .ok (.aload_n 0, 1) := by decide +kernel
theorem dX9_house_6 : decode cX9_house 6 = .ok (.iconst (-1), 1) := by decide +kernel
theorem dX9_house_7 : decode cX9_house 7 = .ok (.putfield 105, 3) := by decide +kernel
theorem dX9_house_10 : decode cX9_house 10 = .ok (.aload_n 0, 1) := by decide +kernel
theorem dX9_house_11 : decode cX9_house 11 = .ok (.iconst 0, 1) := by decide +kernel
theorem dX9_house_12 : decode cX9_house 12 = .ok (.putfield 85, 3) := by decide +kernel
theorem dX9_house_15 : decode cX9_house 15 = .ok (.aload_n 0, 1) := by decide +kernel
theorem dX9_house_16 : decode cX9_house 16 = .ok (.invokevirtual 68, 3) := by decide +kernel
theorem dX9_house_19 : decode cX9_house 19 = .ok (.iconst 0, 1) := by decide +kernel
theorem dX9_house_20 : decode cX9_house 20 = .ok (.istore_n 1, 1) := by decide +kernel
theorem dX9_house_21 : decode cX9_house 21 = .ok (.aload_n 0, 1) := by decide +kernel
theorem dX9_house_22 : decode cX9_house 22 = .ok (.invokevirtual 112, 3) := by decide +kernel
theorem dX9_house_25 : decode cX9_house 25 = .ok (.aload_n 0, 1) := by decide +kernel
theorem dX9_house_26 : decode cX9_house 26 = .ok (.invokevirtual 108, 3) := by decide +kernel
theorem dX9_house_29 : decode cX9_house 29 = .ok (.ifCond .eq 71, 3) := by decide +kernel
theorem dX9_house_32 : decode cX9_house 32 = .ok (.aload_n 0, 1) := by decide +kernel
theorem dX9_house_33 : decode cX9_house 33 = .ok (.getfield 95, 3) := by decide +kernel
theorem dX9_house_36 : decode cX9_house 36 = .ok (.ifCond .eq 64, 3) := by decide +kernel
theorem dX9_house_39 : decode cX9_house 39 = .ok (.aload_n 0, 1) := by decide +kernel
theorem dX9_house_40 : decode cX9_house 40 = .ok (.aload_n 0, 1) := by decide +kernel
theorem dX9_house_41 : decode cX9_house 41 = .ok (.getfield 95, 3) := by decide +kernel
theorem dX9_house_44 : decode cX9_house 44 = .ok (.iconst 1, 1) := by decide +kernel
theorem dX9_house_45 : decode cX9_house 45 = .ok (.if_icmp .ne 14, 3) := by decide +kernel
theorem dX9_house_48 : decode cX9_house 48 = .ok (.aload_n 0, 1) := by decide +kernel
theorem dX9_house_49 : decode cX9_house 49 = .ok (.invokevirtual 129, 3) := by decide +kernel
theorem dX9_house_52 : decode cX9_house 52 = .ok (.ifCond .eq 7, 3) := by decide +kernel
theorem dX9_house_55 : decode cX9_house 55 = .ok (.iconst 1, 1) := by decide +kernel
theorem dX9_house_56 : decode cX9_house 56 = .ok (.goto 4, 3) := by decide +kernel
theorem dX9_house_59 : decode cX9_house 59 = .ok (.iconst 0, 1) := by decide +kernel
theorem dX9_house_60 : decode cX9_house 60 = .ok (.invokevirtual 115, 3) := by decide +kernel
theorem dX9_house_63 : decode cX9_house 63 = .ok (.istore_n 2, 1) := by decide +kernel
theorem dX9_house_64 : decode cX9_house 64 = .ok (.aload_n 0, 1) := by decide +kernel
theorem dX9_house_65 : decode cX9_house 65 = .ok (.invokevirtual 108, 3) := by decide +kernel
theorem dX9_house_68 : decode cX9_house 68 = .ok (.ifCond .eq 8, 3) := by decide +kernel
theorem dX9_house_71 : decode cX9_house 71 = .ok (.aload_n 0, 1) := by decide +kernel
theorem dX9_house_72 : decode cX9_house 72 = .ok (.iload_n 2, 1) := by decide +kernel
theorem dX9_house_73 : decode cX9_house 73 = .ok (.invokevirtual 132, 3) := by decide +kernel
theorem dX9_house_76 : decode cX9_house 76 = .ok (.aload_n 0, 1) := by decide +kernel
theorem dX9_house_77 : decode cX9_house 77 = .ok (.aload_n 0, 1) := by decide +kernel
theorem dX9_house_78 : decode cX9_house 78 = .ok (.getfield 95, 3) := by decide +kernel
theorem dX9_house_81 : decode cX9_house 81 = .ok (.iconst 3, 1) := by decide +kernel
theorem dX9_house_82 : decode cX9_house 82 = .ok (.if_icmp .ne 7, 3) := by decide +kernel
theorem dX9_house_85 : decode cX9_house 85 = .ok (.iconst 1, 1) := by decide +kernel
theorem dX9_house_86 : decode cX9_house 86 = .ok (.goto 4, 3) := by decide +kernel
theorem dX9_house_89 : decode cX9_house 89 = .ok (.iconst 0, 1) := by decide +kernel
theorem dX9_house_90 : decode cX9_house 90 = .ok (.invokevirtual 115, 3) := by decide +kernel
theorem dX9_house_93 : decode cX9_house 93 = .ok (.pop, 1) := by decide +kernel
theorem dX9_house_94 : decode cX9_house 94 = .ok (.iinc 1 1, 3) := by decide +kernel
theorem dX9_house_97 : decode cX9_house 97 = .ok (.goto (-72), 3) := by decide +kernel
theorem dX9_house_100 : decode cX9_house 100 = .ok (.aload_n 0, 1) := by decide +kernel
theorem dX9_house_101 : decode cX9_house 101 = .ok (.invokevirtual 108, 3) := by decide +kernel
theorem dX9_house_104 : decode cX9_house 104 = .ok (.ifCond .ne 11, 3) := by decide +kernel
theorem dX9_house_107 : decode cX9_house 107 = .ok (.bipush (-10), 2) := by decide +kernel
theorem dX9_house_109 : decode cX9_house 109 = .ok (.aload_n 0, 1) := by decide +kernel
theorem dX9_house_110 : decode cX9_house 110 = .ok (.getfield 105, 3) := by decide +kernel
theorem dX9_house_113 : decode cX9_house 113 = .ok (.isub, 1) := by decide +kernel
theorem dX9_house_114 : decode cX9_house 114 = .ok (.ireturn, 1) := by decide +kernel
theorem dX9_house_115 : decode cX9_house 115 = .ok (.aload_n 0, 1) := by decide +kernel
theorem dX9_house_116 : decode cX9_house 116 = .ok (.invokevirtual 71, 3) := by decide +kernel
theorem dX9_house_119 : decode cX9_house 119 = .ok (.iload_n 1, 1) := by decide +kernel
theorem dX9_house_120 : decode cX9_house 120 = .ok (.ireturn, 1) := by decide +kernel
theorem dX9_settles_0 : decode cX9_settles 0 = .ok (.iconst 0, 1) := by decide +kernel
theorem dX9_settles_1 : decode cX9_settles 1 = .ok (.istore_n 1, 1) := by decide +kernel
theorem dX9_settles_2 : decode cX9_settles 2 = .ok (.iload_n 1, 1) := by decide +kernel
theorem dX9_settles_3 : decode cX9_settles 3 = .ok (.bipush 6, 2) := by decide +kernel
theorem dX9_settles_5 : decode cX9_settles 5 = .ok (.if_icmp .ge 39, 3) := by decide +kernel
theorem dX9_settles_8 : decode cX9_settles 8 = .ok (.aload_n 0, 1) := by decide +kernel
theorem dX9_settles_9 : decode cX9_settles 9 = .ok (.getfield 13, 3) := by decide +kernel
theorem dX9_settles_12 : decode cX9_settles 12 = .ok (.iload_n 1, 1) := by decide +kernel
theorem dX9_settles_13 : decode cX9_settles 13 = .ok (.aload_n 0, 1) := by decide +kernel
theorem dX9_settles_14 : decode cX9_settles 14 = .ok (.getfield 13, 3) := by decide +kernel
theorem dX9_settles_17 : decode cX9_settles 17 = .ok (.bipush 6, 2) := by decide +kernel
theorem dX9_settles_19 : decode cX9_settles 19 = .ok (.iload_n 1, 1) := by decide +kernel
theorem dX9_settles_20 : decode cX9_settles 20 = .ok (.iadd, 1) := by decide +kernel
theorem dX9_settles_21 : decode cX9_settles 21 = .ok (.iaload, 1) := by decide +kernel
theorem dX9_settles_22 : decode cX9_settles 22 = .ok (.iastore, 1) := by decide +kernel
theorem dX9_settles_23 : decode cX9_settles 23 = .ok (.aload_n 0, 1) := by decide +kernel
theorem dX9_settles_24 : decode cX9_settles 24 = .ok (.getfield 31, 3) := by decide +kernel
theorem dX9_settles_27 : decode cX9_settles 27 = .ok (.iload_n 1, 1) := by decide +kernel
theorem dX9_settles_28 : decode cX9_settles 28 = .ok (.aload_n 0, 1) := by decide +kernel
theorem dX9_settles_29 : decode cX9_settles 29 = .ok (.getfield 31, 3) := by decide +kernel
theorem dX9_settles_32 : decode cX9_settles 32 = .ok (.bipush 6, 2) := by decide +kernel
theorem dX9_settles_34 : decode cX9_settles 34 = .ok (.iload_n 1, 1) := by decide +kernel
theorem dX9_settles_35 : decode cX9_settles 35 = .ok (.iadd, 1) := by decide +kernel
theorem dX9_settles_36 : decode cX9_settles 36 = .ok (.iaload, 1) := by decide +kernel
theorem dX9_settles_37 : decode cX9_settles 37 = .ok (.iastore, 1) := by decide +kernel
theorem dX9_settles_38 : decode cX9_settles 38 = .ok (.iinc 1 1, 3) := by decide +kernel
theorem dX9_settles_41 : decode cX9_settles 41 = .ok (.goto (-39), 3) := by decide +kernel
theorem dX9_settles_44 : decode cX9_settles 44 = .ok (.iconst 0, 1) := by decide +kernel
theorem dX9_settles_45 : decode cX9_settles 45 = .ok (.istore_n 1, 1) := by decide +kernel
theorem dX9_settles_46 : decode cX9_settles 46 = .ok (.iload_n 1, 1) := by decide +kernel
theorem dX9_settles_47 : decode cX9_settles 47 = .ok (.bipush 15, 2) := by decide +kernel
theorem dX9_settles_49 : decode cX9_settles 49 = .ok (.if_icmp .ge 16, 3) := by decide +kernel
theorem dX9_settles_52 : decode cX9_settles 52 = .ok (.aload_n 0, 1) := by decide +kernel
theorem dX9_settles_53 : decode cX9_settles 53 = .ok (.getfield 34, 3) := by decide +kernel
theorem dX9_settles_56 : decode cX9_settles 56 = .ok (.iload_n 1, 1) := by decide +kernel
theorem dX9_settles_57 : decode cX9_settles 57 = .ok (.iconst 0, 1) := by decide +kernel
theorem dX9_settles_58 : decode cX9_settles 58 = .ok (.iastore, 1) := by decide +kernel
theorem dX9_settles_59 : decode cX9_settles 59 = .ok (.iinc 1 1, 3) := by decide +kernel
theorem dX9_settles_62 : decode cX9_settles 62 = .ok (.goto (-16), 3) := by decide +kernel
theorem dX9_settles_65 : decode cX9_settles 65 = .ok (.iconst 0, 1) := by decide +kernel
theorem dX9_settles_66 : decode cX9_settles 66 = .ok (.istore_n 1, 1) := by decide +kernel
theorem dX9_settles_67 : decode cX9_settles 67 = .ok (.iload_n 1, 1) := by decide +kernel
theorem dX9_settles_68 : decode cX9_settles 68 = .ok (.iconst 5, 1) := by decide +kernel
theorem dX9_settles_69 : decode cX9_settles 69 = .ok (.if_icmp .ge 93, 3) := by decide +kernel
theorem dX9_settles_72 : decode cX9_settles 72 = .ok (.aload_n 0, 1) := by decide +kernel
theorem dX9_settles_73 : decode cX9_settles 73 = .ok (.getfield 19, 3) := by decide +kernel
theorem dX9_settles_76 : decode cX9_settles 76 = .ok (.iload_n 1, 1) := by decide +kernel
theorem dX9_settles_77 : decode cX9_settles 77 = .ok (.aload_n 0, 1) := by decide +kernel
theorem dX9_settles_78 : decode cX9_settles 78 = .ok (.getfield 19, 3) := by decide +kernel
theorem dX9_settles_81 : decode cX9_settles 81 = .ok (.iconst 5, 1) := by decide +kernel
theorem dX9_settles_82 : decode cX9_settles 82 = .ok (.iload_n 1, 1) := by decide +kernel
theorem dX9_settles_83 : decode cX9_settles 83 = .ok (.iadd, 1) := by decide +kernel
theorem dX9_settles_84 : decode cX9_settles 84 = .ok (.iaload, 1) := by decide +kernel
theorem dX9_settles_85 : decode cX9_settles 85 = .ok (.iastore, 1) := by decide +kernel
theorem dX9_settles_86 : decode cX9_settles 86 = .ok (.aload_n 0, 1) := by decide +kernel
theorem dX9_settles_87 : decode cX9_settles 87 = .ok (.getfield 22, 3) := by decide +kernel
theorem dX9_settles_90 : decode cX9_settles 90 = .ok (.iload_n 1, 1) := by decide +kernel
theorem dX9_settles_91 : decode cX9_settles 91 = .ok (.aload_n 0, 1) := by decide +kernel
theorem dX9_settles_92 : decode cX9_settles 92 = .ok (.getfield 22, 3) := by decide +kernel
theorem dX9_settles_95 : decode cX9_settles 95 = .ok (.iconst 5, 1) := by decide +kernel
theorem dX9_settles_96 : decode cX9_settles 96 = .ok (.iload_n 1, 1) := by decide +kernel
theorem dX9_settles_97 : decode cX9_settles 97 = .ok (.iadd, 1) := by decide +kernel
theorem dX9_settles_98 : decode cX9_settles 98 = .ok (.iaload, 1) := by decide +kernel
theorem dX9_settles_99 : decode cX9_settles 99 = .ok (.iastore, 1) := by decide +kernel
theorem dX9_settles_100 : decode cX9_settles 100 = .ok (.aload_n 0, 1) := by decide +kernel
theorem dX9_settles_101 : decode cX9_settles 101 = .ok (.getfield 25, 3) := by decide +kernel
theorem dX9_settles_104 : decode cX9_settles 104 = .ok (.iload_n 1, 1) := by decide +kernel
theorem dX9_settles_105 : decode cX9_settles 105 = .ok (.aload_n 0, 1) := by decide +kernel
theorem dX9_settles_106 : decode cX9_settles 106 = .ok (.getfield 25, 3) := by decide +kernel
theorem dX9_settles_109 : decode cX9_settles 109 = .ok (.iconst 5, 1) := by decide +kernel
theorem dX9_settles_110 : decode cX9_settles 110 = .ok (.iload_n 1, 1) := by decide +kernel
theorem dX9_settles_111 : decode cX9_settles 111 = .ok (.iadd, 1) := by decide +kernel
theorem dX9_settles_112 : decode cX9_settles 112 = .ok (.iaload, 1) := by decide +kernel
theorem dX9_settles_113 : decode cX9_settles 113 = .ok (.iastore, 1) := by decide +kernel
theorem dX9_settles_114 : decode cX9_settles 114 = .ok (.aload_n 0, 1) := by decide +kernel
theorem dX9_settles_115 : decode cX9_settles 115 = .ok (.getfield 28, 3) := by decide +kernel
theorem dX9_settles_118 : decode cX9_settles 118 = .ok (.iload_n 1, 1) := by decide +kernel
theorem dX9_settles_119 : decode cX9_settles 119 = .ok (.aload_n 0, 1) := by decide +kernel
theorem dX9_settles_120 : decode cX9_settles 120 = .ok (.getfield 28, 3) := by decide +kernel
theorem dX9_settles_123 : decode cX9_settles 123 = .ok (.iconst 5, 1) := by decide +kernel
theorem dX9_settles_124 : decode cX9_settles 124 = .ok (.iload_n 1, 1) := by decide +kernel
theorem dX9_settles_125 : decode cX9_settles 125 = .ok (.iadd, 1) := by decide +kernel
theorem dX9_settles_126 : decode cX9_settles 126 = .ok (.iaload, 1) := by decide +kernel
theorem dX9_settles_127 : decode cX9_settles 127 = .ok (.iastore, 1) := by decide +kernel
theorem dX9_settles_128 : decode cX9_settles 128 = .ok (.aload_n 0, 1) := by decide +kernel
theorem dX9_settles_129 : decode cX9_settles 129 = .ok (.getfield 34, 3) := by decide +kernel
theorem dX9_settles_132 : decode cX9_settles 132 = .ok (.iconst 5, 1) := by decide +kernel
theorem dX9_settles_133 : decode cX9_settles 133 = .ok (.iload_n 1, 1) := by decide +kernel
theorem dX9_settles_134 : decode cX9_settles 134 = .ok (.iadd, 1) := by decide +kernel
theorem dX9_settles_135 : decode cX9_settles 135 = .ok (.iload_n 1, 1) := by decide +kernel
theorem dX9_settles_136 : decode cX9_settles 136 = .ok (.aload_n 0, 1) := by decide +kernel
theorem dX9_settles_137 : decode cX9_settles 137 = .ok (.getfield 13, 3) := by decide +kernel
theorem dX9_settles_140 : decode cX9_settles 140 = .ok (.iconst 0, 1) := by decide +kernel
theorem dX9_settles_141 : decode cX9_settles 141 = .ok (.iaload, 1) := by decide +kernel
theorem dX9_settles_142 : decode cX9_settles 142 = .ok (.if_icmp .ge 12, 3) := by decide +kernel
theorem dX9_settles_145 : decode cX9_settles 145 = .ok (.aload_n 0, 1) := by decide +kernel
theorem dX9_settles_146 : decode cX9_settles 146 = .ok (.getfield 16, 3) := by decide +kernel
theorem dX9_settles_149 : decode cX9_settles 149 = .ok (.iload_n 1, 1) := by decide +kernel
theorem dX9_settles_150 : decode cX9_settles 150 = .ok (.iaload, 1) := by decide +kernel
theorem dX9_settles_151 : decode cX9_settles 151 = .ok (.goto 4, 3) := by decide +kernel
theorem dX9_settles_154 : decode cX9_settles 154 = .ok (.iconst 0, 1) := by decide +kernel
theorem dX9_settles_155 : decode cX9_settles 155 = .ok (.iastore, 1) := by decide +kernel
theorem dX9_settles_156 : decode cX9_settles 156 = .ok (.iinc 1 1, 3) := by decide +kernel
theorem dX9_settles_159 : decode cX9_settles 159 = .ok (.goto (-92), 3) := by decide +kernel
theorem dX9_settles_162 : decode cX9_settles 162 = .ok (.aload_n 0, 1) := by decide +kernel
theorem dX9_settles_163 : decode cX9_settles 163 = .ok (.iconst 0, 1) := by decide +kernel
theorem dX9_settles_164 : decode cX9_settles 164 = .ok (.putfield 82, 3) := by decide +kernel
theorem dX9_settles_167 : decode cX9_settles 167 = .ok (.aload_n 0, 1) := by decide +kernel
theorem dX9_settles_168 : decode cX9_settles 168 = .ok (.iconst 0, 1) := by decide +kernel
theorem dX9_settles_169 : decode cX9_settles 169 = .ok (.putfield 136, 3) := by decide +kernel
theorem dX9_settles_172 : decode cX9_settles 172 = .ok (.aload_n 0, 1) := by decide +kernel
theorem dX9_settles_173 : decode cX9_settles 173 = .ok (.iconst 0, 1) := by decide +kernel
theorem dX9_settles_174 : decode cX9_settles 174 = .ok (.putfield 139, 3) := by decide +kernel
theorem dX9_settles_177 : decode cX9_settles 177 = .ok (.aload_n 0, 1) := by decide +kernel
theorem dX9_settles_178 : decode cX9_settles 178 = .ok (.getfield 40, 3) := by decide +kernel
theorem dX9_settles_181 : decode cX9_settles 181 = .ok (.iconst 0, 1) := by decide +kernel
theorem dX9_settles_182 : decode cX9_settles 182 = .ok (.iconst 0, 1) := by decide +kernel
theorem dX9_settles_183 : decode cX9_settles 183 = .ok (.bastore, 1) := by decide +kernel
theorem dX9_settles_184 : decode cX9_settles 184 = .ok (.aload_n 0, 1) := by decide +kernel
theorem dX9_settles_185 : decode cX9_settles 185 = .ok (.getfield 40, 3) := by decide +kernel
theorem dX9_settles_188 : decode cX9_settles 188 = .ok (.iconst 1, 1) := by decide +kernel
theorem dX9_settles_189 : decode cX9_settles 189 = .ok (.iconst 0, 1) := by decide +kernel
theorem dX9_settles_190 : decode cX9_settles 190 = .ok (.bastore, 1) := by decide +kernel
theorem dX9_settles_191 : decode cX9_settles 191 = .ok (.return_, 1) := by decide +kernel
theorem dX9_isRoom_0 : decode cX9_isRoom 0 = .ok (.iload_n 1, 1) := by decide +kernel
theorem dX9_isRoom_1 : decode cX9_isRoom 1 = .ok (.iconst 0, 1) := by decide +kernel
theorem dX9_isRoom_2 : decode cX9_isRoom 2 = .ok (.aload_n 0, 1) := by decide +kernel
theorem dX9_isRoom_3 : decode cX9_isRoom 3 = .ok (.getfield 13, 3) := by decide +kernel
theorem dX9_isRoom_6 : decode cX9_isRoom 6 = .ok (.iconst 0, 1) := by decide +kernel
theorem dX9_isRoom_7 : decode cX9_isRoom 7 = .ok (.iaload, 1) := by decide +kernel
theorem dX9_isRoom_8 : decode cX9_isRoom 8 = .ok (.iconst 1, 1) := by decide +kernel
theorem dX9_isRoom_9 : decode cX9_isRoom 9 = .ok (.isub, 1) := by decide +kernel
theorem dX9_isRoom_10 : decode cX9_isRoom 10 = .ok (.invokestatic 78, 3) := by decide +kernel
theorem dX9_isRoom_13 : decode cX9_isRoom 13 = .ok (.ireturn, 1) := by decide +kernel
theorem dX9_isDoing_0 : decode cX9_isDoing 0 = .ok (.iload_n 1, 1) := by decide +kernel
theorem dX9_isDoing_1 : decode cX9_isDoing 1 = .ok (.iconst 0, 1) := by decide +kernel
theorem dX9_isDoing_2 : decode cX9_isDoing 2 = .ok (.aload_n 0, 1) := by decide +kernel
theorem dX9_isDoing_3 : decode cX9_isDoing 3 = .ok (.getfield 13, 3) := by decide +kernel
theorem dX9_isDoing_6 : decode cX9_isDoing 6 = .ok (.iconst 1, 1) := by decide +kernel
theorem dX9_isDoing_7 : decode cX9_isDoing 7 = .ok (.iaload, 1) := by decide +kernel
theorem dX9_isDoing_8 : decode cX9_isDoing 8 = .ok (.iconst 1, 1) := by decide +kernel
theorem dX9_isDoing_9 : decode cX9_isDoing 9 = .ok (.isub, 1) := by decide +kernel
theorem dX9_isDoing_10 : decode cX9_isDoing 10 = .ok (.invokestatic 78, 3) := by decide +kernel
theorem dX9_isDoing_13 : decode cX9_isDoing 13 = .ok (.ireturn, 1) := by decide +kernel
theorem dX9_isSolved_0 : decode cX9_isSolved 0 = .ok (.aload_n 0, 1) := by decide +kernel
theorem dX9_isSolved_1 : decode cX9_isSolved 1 = .ok (.getfield 34, 3) := by decide +kernel
theorem dX9_isSolved_4 : decode cX9_isSolved 4 = .ok (.iconst 3, 1) := by decide +kernel
theorem dX9_isSolved_5 : decode cX9_isSolved 5 = .ok (.iaload, 1) := by decide +kernel
theorem dX9_isSolved_6 : decode cX9_isSolved 6 = .ok (.iload_n 1, 1) := by decide +kernel
theorem dX9_isSolved_7 : decode cX9_isSolved 7 = .ok (.ishr, 1) := by decide +kernel
theorem dX9_isSolved_8 : decode cX9_isSolved 8 = .ok (.iconst 1, 1) := by decide +kernel
theorem dX9_isSolved_9 : decode cX9_isSolved 9 = .ok (.iand, 1) := by decide +kernel
theorem dX9_isSolved_10 : decode cX9_isSolved 10 = .ok (.iconst 1, 1) := by decide +kernel
theorem dX9_isSolved_11 : decode cX9_isSolved 11 = .ok (.if_icmp .ne 7, 3) := by decide +kernel
theorem dX9_isSolved_14 : decode cX9_isSolved 14 = .ok (.iconst 1, 1) := by decide +kernel
theorem dX9_isSolved_15 : decode cX9_isSolved 15 = .ok (.goto 4, 3) := by decide +kernel
theorem dX9_isSolved_18 : decode cX9_isSolved 18 = .ok (.iconst 0, 1) := by decide +kernel
theorem dX9_isSolved_19 : decode cX9_isSolved 19 = .ok (.ireturn, 1) := by decide +kernel
theorem dX9_room_0 : decode cX9_room 0 = .ok (.aload_n 0, 1) := by decide +kernel
theorem dX9_room_1 : decode cX9_room 1 = .ok (.iconst 0, 1) := by decide +kernel
theorem dX9_room_2 : decode cX9_room 2 = .ok (.putfield 74, 3) := by decide +kernel
theorem dX9_room_5 : decode cX9_room 5 = .ok (.aload_n 0, 1) := by decide +kernel
theorem dX9_room_6 : decode cX9_room 6 = .ok (.iload_n 1, 1) := by decide +kernel
theorem dX9_room_7 : decode cX9_room 7 = .ok (.invokevirtual 142, 3) := by decide +kernel
theorem dX9_room_10 : decode cX9_room 10 = .ok (.ifCond .eq 12, 3) := by decide +kernel
theorem dX9_room_13 : decode cX9_room 13 = .ok (.iload_n 2, 1) := by decide +kernel
theorem dX9_room_14 : decode cX9_room 14 = .ok (.iconst 0, 1) := by decide +kernel
theorem dX9_room_15 : decode cX9_room 15 = .ok (.iconst 4, 1) := by decide +kernel
theorem dX9_room_16 : decode cX9_room 16 = .ok (.invokestatic 78, 3) := by decide +kernel
theorem dX9_room_19 : decode cX9_room 19 = .ok (.ifCond .ne 6, 3) := by decide +kernel
theorem dX9_room_22 : decode cX9_room 22 = .ok (.ldc 145, 2) := by decide +kernel
theorem dX9_room_24 : decode cX9_room 24 = .ok (.ireturn, 1) := by decide +kernel
theorem dX9_room_25 : decode cX9_room 25 = .ok (.iload_n 2, 1) := by decide +kernel
theorem dX9_room_26 : decode cX9_room 26 = .ok (.iconst 3, 1) := by decide +kernel
theorem dX9_room_27 : decode cX9_room 27 = .ok (.if_icmp .ge 39, 3) := by decide +kernel
theorem dX9_room_30 : decode cX9_room 30 = .ok (.iload_n 2, 1) := by decide +kernel
theorem dX9_room_31 : decode cX9_room 31 = .ok (.ifCond .ne 14, 3) := by decide +kernel
theorem dX9_room_34 : decode cX9_room 34 = .ok (.aload_n 0, 1) := by decide +kernel
theorem dX9_room_35 : decode cX9_room 35 = .ok (.getfield 34, 3) := by decide +kernel
theorem dX9_room_38 : decode cX9_room 38 = .ok (.iconst 5, 1) := by decide +kernel
theorem dX9_room_39 : decode cX9_room 39 = .ok (.iload_n 1, 1) := by decide +kernel
theorem dX9_room_40 : decode cX9_room 40 = .ok (.iadd, 1) := by decide +kernel
theorem dX9_room_41 : decode cX9_room 41 = .ok (.iaload, 1) := by decide +kernel
theorem dX9_room_42 : decode cX9_room 42 = .ok (.goto 23, 3) := by decide +kernel
theorem dX9_room_45 : decode cX9_room 45 = .ok (.iload_n 2, 1) := by decide +kernel
theorem dX9_room_46 : decode cX9_room 46 = .ok (.iconst 1, 1) := by decide +kernel
theorem dX9_room_47 : decode cX9_room 47 = .ok (.if_icmp .ne 12, 3) := by decide +kernel
theorem dX9_room_50 : decode cX9_room 50 = .ok (.aload_n 0, 1) := by decide +kernel
theorem dX9_room_51 : decode cX9_room 51 = .ok (.getfield 19, 3) := by decide +kernel
theorem dX9_room_54 : decode cX9_room 54 = .ok (.iload_n 1, 1) := by decide +kernel
theorem dX9_room_55 : decode cX9_room 55 = .ok (.iaload, 1) := by decide +kernel
theorem dX9_room_56 : decode cX9_room 56 = .ok (.goto 9, 3) := by decide +kernel
theorem dX9_room_59 : decode cX9_room 59 = .ok (.aload_n 0, 1) := by decide +kernel
theorem dX9_room_60 : decode cX9_room 60 = .ok (.getfield 22, 3) := by decide +kernel
theorem dX9_room_63 : decode cX9_room 63 = .ok (.iload_n 1, 1) := by decide +kernel
theorem dX9_room_64 : decode cX9_room 64 = .ok (.iaload, 1) := by decide +kernel
theorem dX9_room_65 : decode cX9_room 65 = .ok (.ireturn, 1) := by decide +kernel
theorem dX9_room_66 : decode cX9_room 66 = .ok (.iload_n 2, 1) := by decide +kernel
theorem dX9_room_67 : decode cX9_room 67 = .ok (.iconst 3, 1) := by decide +kernel
theorem dX9_room_68 : decode cX9_room 68 = .ok (.if_icmp .ne 19, 3) := by decide +kernel
theorem dX9_room_71 : decode cX9_room 71 = .ok (.aload_n 0, 1) := by decide +kernel
theorem dX9_room_72 : decode cX9_room 72 = .ok (.iload_n 1, 1) := by decide +kernel
theorem dX9_room_73 : decode cX9_room 73 = .ok (.invokevirtual 146, 3) := by decide +kernel
theorem dX9_room_76 : decode cX9_room 76 = .ok (.ifCond .eq 7, 3) := by decide +kernel
theorem dX9_room_79 : decode cX9_room 79 = .ok (.iconst 1, 1) := by decide +kernel
theorem dX9_room_80 : decode cX9_room 80 = .ok (.goto 35, 3) := by decide +kernel
theorem dX9_room_83 : decode cX9_room 83 = .ok (.iconst 0, 1) := by decide +kernel
theorem dX9_room_84 : decode cX9_room 84 = .ok (.goto 31, 3) := by decide +kernel
theorem dX9_room_87 : decode cX9_room 87 = .ok (.aload_n 0, 1) := by decide +kernel
theorem dX9_room_88 : decode cX9_room 88 = .ok (.getfield 34, 3) := by decide +kernel
theorem dX9_room_91 : decode cX9_room 91 = .ok (.bipush 10, 2) := by decide +kernel
theorem dX9_room_93 : decode cX9_room 93 = .ok (.iload_n 1, 1) := by decide +kernel
theorem dX9_room_94 : decode cX9_room 94 = .ok (.iadd, 1) := by decide +kernel
theorem dX9_room_95 : decode cX9_room 95 = .ok (.iaload, 1) := by decide +kernel
theorem dX9_room_96 : decode cX9_room 96 = .ok (.ifCond .ne 8, 3) := by decide +kernel
theorem dX9_room_99 : decode cX9_room 99 = .ok (.bipush (-9), 2) := by decide +kernel
theorem dX9_room_101 : decode cX9_room 101 = .ok (.goto 14, 3) := by decide +kernel
theorem dX9_room_104 : decode cX9_room 104 = .ok (.aload_n 0, 1) := by decide +kernel
theorem dX9_room_105 : decode cX9_room 105 = .ok (.getfield 34, 3) := by decide +kernel
theorem dX9_room_108 : decode cX9_room 108 = .ok (.bipush 10, 2) := by decide +kernel
theorem dX9_room_110 : decode cX9_room 110 = .ok (.iload_n 1, 1) := by decide +kernel
theorem dX9_room_111 : decode cX9_room 111 = .ok (.iadd, 1) := by decide +kernel
theorem dX9_room_112 : decode cX9_room 112 = .ok (.iaload, 1) := by decide +kernel
theorem dX9_room_113 : decode cX9_room 113 = .ok (.iconst 1, 1) := by decide +kernel
theorem dX9_room_114 : decode cX9_room 114 = .ok (.isub, 1) := by decide +kernel
theorem dX9_room_115 : decode cX9_room 115 = .ok (.ireturn, 1) := by decide +kernel
theorem dX9_doing_0 : decode cX9_doing 0 = .ok (.aload_n 0, 1) := by decide +kernel
theorem dX9_doing_1 : decode cX9_doing 1 = .ok (.iconst 0, 1) := by decide +kernel
theorem dX9_doing_2 : decode cX9_doing 2 = .ok (.putfield 74, 3) := by decide +kernel
theorem dX9_doing_5 : decode cX9_doing 5 = .ok (.aload_n 0, 1) := by decide +kernel
theorem dX9_doing_6 : decode cX9_doing 6 = .ok (.iload_n 1, 1) := by decide +kernel
theorem dX9_doing_7 : decode cX9_doing 7 = .ok (.invokevirtual 149, 3) := by decide +kernel
theorem dX9_doing_10 : decode cX9_doing 10 = .ok (.ifCond .eq 12, 3) := by decide +kernel
theorem dX9_doing_13 : decode cX9_doing 13 = .ok (.iload_n 2, 1) := by decide +kernel
theorem dX9_doing_14 : decode cX9_doing 14 = .ok (.iconst 0, 1) := by decide +kernel
theorem dX9_doing_15 : decode cX9_doing 15 = .ok (.iconst 1, 1) := by decide +kernel
theorem dX9_doing_16 : decode cX9_doing 16 = .ok (.invokestatic 78, 3) := by decide +kernel
theorem dX9_doing_19 : decode cX9_doing 19 = .ok (.ifCond .ne 7, 3) := by decide +kernel
theorem dX9_doing_22 : decode cX9_doing 22 = .ok (.iconst (-1), 1) := by decide +kernel
theorem dX9_doing_23 : decode cX9_doing 23 = .ok (.goto 22, 3) := by decide +kernel
theorem dX9_doing_26 : decode cX9_doing 26 = .ok (.iload_n 2, 1) := by decide +kernel
theorem dX9_doing_27 : decode cX9_doing 27 = .ok (.ifCond .ne 12, 3) := by decide +kernel
theorem dX9_doing_30 : decode cX9_doing 30 = .ok (.aload_n 0, 1) := by decide +kernel
theorem dX9_doing_31 : decode cX9_doing 31 = .ok (.getfield 25, 3) := by decide +kernel
theorem dX9_doing_34 : decode cX9_doing 34 = .ok (.iload_n 1, 1) := by decide +kernel
theorem dX9_doing_35 : decode cX9_doing 35 = .ok (.iaload, 1) := by decide +kernel
theorem dX9_doing_36 : decode cX9_doing 36 = .ok (.goto 9, 3) := by decide +kernel
theorem dX9_doing_39 : decode cX9_doing 39 = .ok (.aload_n 0, 1) := by decide +kernel
theorem dX9_doing_40 : decode cX9_doing 40 = .ok (.getfield 28, 3) := by decide +kernel
theorem dX9_doing_43 : decode cX9_doing 43 = .ok (.iload_n 1, 1) := by decide +kernel
theorem dX9_doing_44 : decode cX9_doing 44 = .ok (.iaload, 1) := by decide +kernel
theorem dX9_doing_45 : decode cX9_doing 45 = .ok (.ireturn, 1) := by decide +kernel
theorem dX9_suspect_0 : decode cX9_suspect 0 = .ok (.aload_n 0, 1) := by decide +kernel
theorem dX9_suspect_1 : decode cX9_suspect 1 = .ok (.iconst 0, 1) := by decide +kernel
theorem dX9_suspect_2 : decode cX9_suspect 2 = .ok (.putfield 74, 3) := by decide +kernel
theorem dX9_suspect_5 : decode cX9_suspect 5 = .ok (.iload_n 1, 1) := by decide +kernel
theorem dX9_suspect_6 : decode cX9_suspect 6 = .ok (.iconst 0, 1) := by decide +kernel
theorem dX9_suspect_7 : decode cX9_suspect 7 = .ok (.aload_n 0, 1) := by decide +kernel
theorem dX9_suspect_8 : decode cX9_suspect 8 = .ok (.getfield 13, 3) := by decide +kernel
theorem dX9_suspect_11 : decode cX9_suspect 11 = .ok (.iconst 2, 1) := by decide +kernel
theorem dX9_suspect_12 : decode cX9_suspect 12 = .ok (.iaload, 1) := by decide +kernel
theorem dX9_suspect_13 : decode cX9_suspect 13 = .ok (.iconst 1, 1) := by decide +kernel
theorem dX9_suspect_14 : decode cX9_suspect 14 = .ok (.isub, 1) := by decide +kernel
theorem dX9_suspect_15 : decode cX9_suspect 15 = .ok (.invokestatic 78, 3) := by decide +kernel
theorem dX9_suspect_18 : decode cX9_suspect 18 = .ok (.ifCond .eq 12, 3) := by decide +kernel
theorem dX9_suspect_21 : decode cX9_suspect 21 = .ok (.aload_n 0, 1) := by decide +kernel
theorem dX9_suspect_22 : decode cX9_suspect 22 = .ok (.getfield 31, 3) := by decide +kernel
theorem dX9_suspect_25 : decode cX9_suspect 25 = .ok (.iload_n 1, 1) := by decide +kernel
theorem dX9_suspect_26 : decode cX9_suspect 26 = .ok (.iaload, 1) := by decide +kernel
theorem dX9_suspect_27 : decode cX9_suspect 27 = .ok (.goto 4, 3) := by decide +kernel
theorem dX9_suspect_30 : decode cX9_suspect 30 = .ok (.iconst (-1), 1) := by decide +kernel
theorem dX9_suspect_31 : decode cX9_suspect 31 = .ok (.ireturn, 1) := by decide +kernel
theorem dX9_earned_0 : decode cX9_earned 0 = .ok (.iconst 0, 1) := by decide +kernel
theorem dX9_earned_1 : decode cX9_earned 1 = .ok (.istore_n 1, 1) := by decide +kernel
theorem dX9_earned_2 : decode cX9_earned 2 = .ok (.iconst 0, 1) := by decide +kernel
theorem dX9_earned_3 : decode cX9_earned 3 = .ok (.istore_n 2, 1) := by decide +kernel
theorem dX9_earned_4 : decode cX9_earned 4 = .ok (.iload_n 2, 1) := by decide +kernel
theorem dX9_earned_5 : decode cX9_earned 5 = .ok (.aload_n 0, 1) := by decide +kernel
theorem dX9_earned_6 : decode cX9_earned 6 = .ok (.getfield 13, 3) := by decide +kernel
theorem dX9_earned_9 : decode cX9_earned 9 = .ok (.iconst 0, 1) := by decide +kernel
theorem dX9_earned_10 : decode cX9_earned 10 = .ok (.iaload, 1) := by decide +kernel
theorem dX9_earned_11 : decode cX9_earned 11 = .ok (.if_icmp .ge 30, 3) := by decide +kernel
theorem dX9_earned_14 : decode cX9_earned 14 = .ok (.iload_n 1, 1) := by decide +kernel
theorem dX9_earned_15 : decode cX9_earned 15 = .ok (.aload_n 0, 1) := by decide +kernel
theorem dX9_earned_16 : decode cX9_earned 16 = .ok (.iload_n 2, 1) := by decide +kernel
theorem dX9_earned_17 : decode cX9_earned 17 = .ok (.invokevirtual 146, 3) := by decide +kernel
theorem dX9_earned_20 : decode cX9_earned 20 = .ok (.ifCond .eq 12, 3) := by decide +kernel
theorem dX9_earned_23 : decode cX9_earned 23 = .ok (.aload_n 0, 1) := by decide +kernel
theorem dX9_earned_24 : decode cX9_earned 24 = .ok (.getfield 22, 3) := by decide +kernel
theorem dX9_earned_27 : decode cX9_earned 27 = .ok (.iload_n 2, 1) := by decide +kernel
theorem dX9_earned_28 : decode cX9_earned 28 = .ok (.iaload, 1) := by decide +kernel
theorem dX9_earned_29 : decode cX9_earned 29 = .ok (.goto 4, 3) := by decide +kernel
theorem dX9_earned_32 : decode cX9_earned 32 = .ok (.iconst 0, 1) := by decide +kernel
theorem dX9_earned_33 : decode cX9_earned 33 = .ok (.iadd, 1) := by decide +kernel
theorem dX9_earned_34 : decode cX9_earned 34 = .ok (.istore_n 1, 1) := by decide +kernel
theorem dX9_earned_35 : decode cX9_earned 35 = .ok (.iinc 2 1, 3) := by decide +kernel
theorem dX9_earned_38 : decode cX9_earned 38 = .ok (.goto (-34), 3) := by decide +kernel
theorem dX9_earned_41 : decode cX9_earned 41 = .ok (.iload_n 1, 1) := by decide +kernel
theorem dX9_earned_42 : decode cX9_earned 42 = .ok (.ireturn, 1) := by decide +kernel
theorem dX9_left_0 : decode cX9_left 0 = .ok (.iconst 0, 1) := by decide +kernel
theorem dX9_left_1 : decode cX9_left 1 = .ok (.istore_n 1, 1) := by decide +kernel
theorem dX9_left_2 : decode cX9_left 2 = .ok (.iconst 0, 1) := by decide +kernel
theorem dX9_left_3 : decode cX9_left 3 = .ok (.istore_n 2, 1) := by decide +kernel
theorem dX9_left_4 : decode cX9_left 4 = .ok (.iload_n 2, 1) := by decide +kernel
theorem dX9_left_5 : decode cX9_left 5 = .ok (.aload_n 0, 1) := by decide +kernel
theorem dX9_left_6 : decode cX9_left 6 = .ok (.getfield 13, 3) := by decide +kernel
theorem dX9_left_9 : decode cX9_left 9 = .ok (.iconst 2, 1) := by decide +kernel
theorem dX9_left_10 : decode cX9_left 10 = .ok (.iaload, 1) := by decide +kernel
theorem dX9_left_11 : decode cX9_left 11 = .ok (.if_icmp .ge 47, 3) := by decide +kernel
theorem dX9_left_14 : decode cX9_left 14 = .ok (.iload_n 1, 1) := by decide +kernel
theorem dX9_left_15 : decode cX9_left 15 = .ok (.aload_n 0, 1) := by decide +kernel
theorem dX9_left_16 : decode cX9_left 16 = .ok (.getfield 31, 3) := by decide +kernel
theorem dX9_left_19 : decode cX9_left 19 = .ok (.iload_n 2, 1) := by decide +kernel
theorem dX9_left_20 : decode cX9_left 20 = .ok (.iaload, 1) := by decide +kernel
theorem dX9_left_21 : decode cX9_left 21 = .ok (.aload_n 0, 1) := by decide +kernel
theorem dX9_left_22 : decode cX9_left 22 = .ok (.getfield 31, 3) := by decide +kernel
theorem dX9_left_25 : decode cX9_left 25 = .ok (.aload_n 0, 1) := by decide +kernel
theorem dX9_left_26 : decode cX9_left 26 = .ok (.getfield 13, 3) := by decide +kernel
theorem dX9_left_29 : decode cX9_left 29 = .ok (.iconst 3, 1) := by decide +kernel
theorem dX9_left_30 : decode cX9_left 30 = .ok (.iaload, 1) := by decide +kernel
theorem dX9_left_31 : decode cX9_left 31 = .ok (.iaload, 1) := by decide +kernel
theorem dX9_left_32 : decode cX9_left 32 = .ok (.ixor, 1) := by decide +kernel
theorem dX9_left_33 : decode cX9_left 33 = .ok (.aload_n 0, 1) := by decide +kernel
theorem dX9_left_34 : decode cX9_left 34 = .ok (.getfield 34, 3) := by decide +kernel
theorem dX9_left_37 : decode cX9_left 37 = .ok (.iconst 4, 1) := by decide +kernel
theorem dX9_left_38 : decode cX9_left 38 = .ok (.iaload, 1) := by decide +kernel
theorem dX9_left_39 : decode cX9_left 39 = .ok (.iand, 1) := by decide +kernel
theorem dX9_left_40 : decode cX9_left 40 = .ok (.ifCond .ne 9, 3) := by decide +kernel
theorem dX9_left_43 : decode cX9_left 43 = .ok (.iconst 1, 1) := by decide +kernel
theorem dX9_left_44 : decode cX9_left 44 = .ok (.iload_n 2, 1) := by decide +kernel
theorem dX9_left_45 : decode cX9_left 45 = .ok (.ishl, 1) := by decide +kernel
theorem dX9_left_46 : decode cX9_left 46 = .ok (.goto 4, 3) := by decide +kernel
theorem dX9_left_49 : decode cX9_left 49 = .ok (.iconst 0, 1) := by decide +kernel
theorem dX9_left_50 : decode cX9_left 50 = .ok (.ior, 1) := by decide +kernel
theorem dX9_left_51 : decode cX9_left 51 = .ok (.istore_n 1, 1) := by decide +kernel
theorem dX9_left_52 : decode cX9_left 52 = .ok (.iinc 2 1, 3) := by decide +kernel
theorem dX9_left_55 : decode cX9_left 55 = .ok (.goto (-51), 3) := by decide +kernel
theorem dX9_left_58 : decode cX9_left 58 = .ok (.iload_n 1, 1) := by decide +kernel
theorem dX9_left_59 : decode cX9_left 59 = .ok (.ireturn, 1) := by decide +kernel
theorem dX9_now_0 : decode cX9_now 0 = .ok (.aload_n 0, 1) := by decide +kernel
theorem dX9_now_1 : decode cX9_now 1 = .ok (.iconst 0, 1) := by decide +kernel
theorem dX9_now_2 : decode cX9_now 2 = .ok (.putfield 74, 3) := by decide +kernel
theorem dX9_now_5 : decode cX9_now 5 = .ok (.iload_n 1, 1) := by decide +kernel
theorem dX9_now_6 : decode cX9_now 6 = .ok (.iconst 0, 1) := by decide +kernel
theorem dX9_now_7 : decode cX9_now 7 = .ok (.bipush 7, 2) := by decide +kernel
theorem dX9_now_9 : decode cX9_now 9 = .ok (.invokestatic 78, 3) := by decide +kernel
theorem dX9_now_12 : decode cX9_now 12 = .ok (.ifCond .ne 5, 3) := by decide +kernel
theorem dX9_now_15 : decode cX9_now 15 = .ok (.iconst (-1), 1) := by decide +kernel
theorem dX9_now_16 : decode cX9_now 16 = .ok (.ireturn, 1) := by decide +kernel
theorem dX9_now_17 : decode cX9_now 17 = .ok (.iload_n 1, 1) := by decide +kernel
theorem dX9_now_18 : decode cX9_now 18 = .ok (.iconst 2, 1) := by decide +kernel
theorem dX9_now_19 : decode cX9_now 19 = .ok (.if_icmp .ge 26, 3) := by decide +kernel
theorem dX9_now_22 : decode cX9_now 22 = .ok (.aload_n 0, 1) := by decide +kernel
theorem dX9_now_23 : decode cX9_now 23 = .ok (.getfield 34, 3) := by decide +kernel
theorem dX9_now_26 : decode cX9_now 26 = .ok (.iload_n 1, 1) := by decide +kernel
theorem dX9_now_27 : decode cX9_now 27 = .ok (.iaload, 1) := by decide +kernel
theorem dX9_now_28 : decode cX9_now 28 = .ok (.ifCond .ne 8, 3) := by decide +kernel
theorem dX9_now_31 : decode cX9_now 31 = .ok (.bipush (-9), 2) := by decide +kernel
theorem dX9_now_33 : decode cX9_now 33 = .ok (.goto 11, 3) := by decide +kernel
theorem dX9_now_36 : decode cX9_now 36 = .ok (.aload_n 0, 1) := by decide +kernel
theorem dX9_now_37 : decode cX9_now 37 = .ok (.getfield 34, 3) := by decide +kernel
theorem dX9_now_40 : decode cX9_now 40 = .ok (.iload_n 1, 1) := by decide +kernel
theorem dX9_now_41 : decode cX9_now 41 = .ok (.iaload, 1) := by decide +kernel
theorem dX9_now_42 : decode cX9_now 42 = .ok (.iconst 1, 1) := by decide +kernel
theorem dX9_now_43 : decode cX9_now 43 = .ok (.isub, 1) := by decide +kernel
theorem dX9_now_44 : decode cX9_now 44 = .ok (.ireturn, 1) := by decide +kernel
theorem dX9_now_45 : decode cX9_now 45 = .ok (.iload_n 1, 1) := by decide +kernel
theorem dX9_now_46 : decode cX9_now 46 = .ok (.iconst 4, 1) := by decide +kernel
theorem dX9_now_47 : decode cX9_now 47 = .ok (.if_icmp .ge 12, 3) := by decide +kernel
theorem dX9_now_50 : decode cX9_now 50 = .ok (.aload_n 0, 1) := by decide +kernel
theorem dX9_now_51 : decode cX9_now 51 = .ok (.getfield 34, 3) := by decide +kernel
theorem dX9_now_54 : decode cX9_now 54 = .ok (.iload_n 1, 1) := by decide +kernel
theorem dX9_now_55 : decode cX9_now 55 = .ok (.iaload, 1) := by decide +kernel
theorem dX9_now_56 : decode cX9_now 56 = .ok (.goto 46, 3) := by decide +kernel
theorem dX9_now_59 : decode cX9_now 59 = .ok (.iload_n 1, 1) := by decide +kernel
theorem dX9_now_60 : decode cX9_now 60 = .ok (.iconst 4, 1) := by decide +kernel
theorem dX9_now_61 : decode cX9_now 61 = .ok (.if_icmp .ne 10, 3) := by decide +kernel
theorem dX9_now_64 : decode cX9_now 64 = .ok (.aload_n 0, 1) := by decide +kernel
theorem dX9_now_65 : decode cX9_now 65 = .ok (.invokevirtual 152, 3) := by decide +kernel
theorem dX9_now_68 : decode cX9_now 68 = .ok (.goto 34, 3) := by decide +kernel
theorem dX9_now_71 : decode cX9_now 71 = .ok (.iload_n 1, 1) := by decide +kernel
theorem dX9_now_72 : decode cX9_now 72 = .ok (.iconst 5, 1) := by decide +kernel
theorem dX9_now_73 : decode cX9_now 73 = .ok (.if_icmp .ne 12, 3) := by decide +kernel
theorem dX9_now_76 : decode cX9_now 76 = .ok (.aload_n 0, 1) := by decide +kernel
theorem dX9_now_77 : decode cX9_now 77 = .ok (.getfield 34, 3) := by decide +kernel
theorem dX9_now_80 : decode cX9_now 80 = .ok (.iconst 4, 1) := by decide +kernel
theorem dX9_now_81 : decode cX9_now 81 = .ok (.iaload, 1) := by decide +kernel
theorem dX9_now_82 : decode cX9_now 82 = .ok (.goto 20, 3) := by decide +kernel
theorem dX9_now_85 : decode cX9_now 85 = .ok (.iload_n 1, 1) := by decide +kernel
theorem dX9_now_86 : decode cX9_now 86 = .ok (.bipush 6, 2) := by decide +kernel
theorem dX9_now_88 : decode cX9_now 88 = .ok (.if_icmp .ne 10, 3) := by decide +kernel
theorem dX9_now_91 : decode cX9_now 91 = .ok (.aload_n 0, 1) := by decide +kernel
theorem dX9_now_92 : decode cX9_now 92 = .ok (.invokevirtual 156, 3) := by decide +kernel
theorem dX9_now_95 : decode cX9_now 95 = .ok (.goto 7, 3) := by decide +kernel
theorem dX9_now_98 : decode cX9_now 98 = .ok (.aload_n 0, 1) := by decide +kernel
theorem dX9_now_99 : decode cX9_now 99 = .ok (.getfield 139, 3) := by decide +kernel
theorem dX9_now_102 : decode cX9_now 102 = .ok (.ireturn, 1) := by decide +kernel
theorem dX9_notes_0 : decode cX9_notes 0 = .ok (.aload_n 0, 1) := by decide +kernel
theorem dX9_notes_1 : decode cX9_notes 1 = .ok (.getfield 139, 3) := by decide +kernel
theorem dX9_notes_4 : decode cX9_notes 4 = .ok (.bipush 10, 2) := by decide +kernel
theorem dX9_notes_6 : decode cX9_notes 6 = .ok (.if_icmp .ne 39, 3) := by decide +kernel
theorem dX9_notes_9 : decode cX9_notes 9 = .ok (.iconst 0, 1) := by decide +kernel
theorem dX9_notes_10 : decode cX9_notes 10 = .ok (.istore_n 1, 1) := by decide +kernel
theorem dX9_notes_11 : decode cX9_notes 11 = .ok (.iload_n 1, 1) := by decide +kernel
theorem dX9_notes_12 : decode cX9_notes 12 = .ok (.sipush 135, 3) := by decide +kernel
theorem dX9_notes_15 : decode cX9_notes 15 = .ok (.if_icmp .ge 24, 3) := by decide +kernel
theorem dX9_notes_18 : decode cX9_notes 18 = .ok (.aload_n 0, 1) := by decide +kernel
theorem dX9_notes_19 : decode cX9_notes 19 = .ok (.getfield 44, 3) := by decide +kernel
theorem dX9_notes_22 : decode cX9_notes 22 = .ok (.iload_n 1, 1) := by decide +kernel
theorem dX9_notes_23 : decode cX9_notes 23 = .ok (.aload_n 0, 1) := by decide +kernel
theorem dX9_notes_24 : decode cX9_notes 24 = .ok (.getfield 44, 3) := by decide +kernel
theorem dX9_notes_27 : decode cX9_notes 27 = .ok (.iload_n 1, 1) := by decide +kernel
theorem dX9_notes_28 : decode cX9_notes 28 = .ok (.bipush 15, 2) := by decide +kernel
theorem dX9_notes_30 : decode cX9_notes 30 = .ok (.iadd, 1) := by decide +kernel
theorem dX9_notes_31 : decode cX9_notes 31 = .ok (.iaload, 1) := by decide +kernel
theorem dX9_notes_32 : decode cX9_notes 32 = .ok (.iastore, 1) := by decide +kernel
theorem dX9_notes_33 : decode cX9_notes 33 = .ok (.iinc 1 1, 3) := by decide +kernel
theorem dX9_notes_36 : decode cX9_notes 36 = .ok (.goto (-25), 3) := by decide +kernel
theorem dX9_notes_39 : decode cX9_notes 39 = .ok (.aload_n 0, 1) := by decide +kernel
theorem dX9_notes_40 : decode cX9_notes 40 = .ok (.bipush 9, 2) := by decide +kernel
theorem dX9_notes_42 : decode cX9_notes 42 = .ok (.putfield 139, 3) := by decide +kernel
theorem dX9_notes_45 : decode cX9_notes 45 = .ok (.iconst 0, 1) := by decide +kernel
theorem dX9_notes_46 : decode cX9_notes 46 = .ok (.istore_n 1, 1) := by decide +kernel
theorem dX9_notes_47 : decode cX9_notes 47 = .ok (.iload_n 1, 1) := by decide +kernel
theorem dX9_notes_48 : decode cX9_notes 48 = .ok (.bipush 15, 2) := by decide +kernel
theorem dX9_notes_50 : decode cX9_notes 50 = .ok (.if_icmp .ge 29, 3) := by decide +kernel
theorem dX9_notes_53 : decode cX9_notes 53 = .ok (.aload_n 0, 1) := by decide +kernel
theorem dX9_notes_54 : decode cX9_notes 54 = .ok (.getfield 44, 3) := by decide +kernel
theorem dX9_notes_57 : decode cX9_notes 57 = .ok (.bipush 15, 2) := by decide +kernel
theorem dX9_notes_59 : decode cX9_notes 59 = .ok (.aload_n 0, 1) := by decide +kernel
theorem dX9_notes_60 : decode cX9_notes 60 = .ok (.getfield 139, 3) := by decide +kernel
theorem dX9_notes_63 : decode cX9_notes 63 = .ok (.imul, 1) := by decide +kernel
theorem dX9_notes_64 : decode cX9_notes 64 = .ok (.iload_n 1, 1) := by decide +kernel
theorem dX9_notes_65 : decode cX9_notes 65 = .ok (.iadd, 1) := by decide +kernel
theorem dX9_notes_66 : decode cX9_notes 66 = .ok (.aload_n 0, 1) := by decide +kernel
theorem dX9_notes_67 : decode cX9_notes 67 = .ok (.getfield 34, 3) := by decide +kernel
theorem dX9_notes_70 : decode cX9_notes 70 = .ok (.iload_n 1, 1) := by decide +kernel
theorem dX9_notes_71 : decode cX9_notes 71 = .ok (.iaload, 1) := by decide +kernel
theorem dX9_notes_72 : decode cX9_notes 72 = .ok (.iastore, 1) := by decide +kernel
theorem dX9_notes_73 : decode cX9_notes 73 = .ok (.iinc 1 1, 3) := by decide +kernel
theorem dX9_notes_76 : decode cX9_notes 76 = .ok (.goto (-29), 3) := by decide +kernel
theorem dX9_notes_79 : decode cX9_notes 79 = .ok (.aload_n 0, 1) := by decide +kernel
theorem dX9_notes_80 : decode cX9_notes 80 = .ok (.dup, 1) := by decide +kernel
theorem dX9_notes_81 : decode cX9_notes 81 = .ok (.getfield 139, 3) := by decide +kernel
theorem dX9_notes_84 : decode cX9_notes 84 = .ok (.iconst 1, 1) := by decide +kernel
theorem dX9_notes_85 : decode cX9_notes 85 = .ok (.iadd, 1) := by decide +kernel
theorem dX9_notes_86 : decode cX9_notes 86 = .ok (.putfield 139, 3) := by decide +kernel
theorem dX9_notes_89 : decode cX9_notes 89 = .ok (.return_, 1) := by decide +kernel
theorem dX9_mayLast_0 : decode cX9_mayLast 0 = .ok (.aload_n 0, 1) := by decide +kernel
theorem dX9_mayLast_1 : decode cX9_mayLast 1 = .ok (.getfield 34, 3) := by decide +kernel
theorem dX9_mayLast_4 : decode cX9_mayLast 4 = .ok (.iconst 2, 1) := by decide +kernel
theorem dX9_mayLast_5 : decode cX9_mayLast 5 = .ok (.iaload, 1) := by decide +kernel
theorem dX9_mayLast_6 : decode cX9_mayLast 6 = .ok (.iload_n 1, 1) := by decide +kernel
theorem dX9_mayLast_7 : decode cX9_mayLast 7 = .ok (.iadd, 1) := by decide +kernel
theorem dX9_mayLast_8 : decode cX9_mayLast 8 = .ok (.sipush 9999, 3) := by decide +kernel
theorem dX9_mayLast_11 : decode cX9_mayLast 11 = .ok (.if_icmp .gt 7, 3) := by decide +kernel
theorem dX9_mayLast_14 : decode cX9_mayLast 14 = .ok (.iconst 1, 1) := by decide +kernel
theorem dX9_mayLast_15 : decode cX9_mayLast 15 = .ok (.goto 4, 3) := by decide +kernel
theorem dX9_mayLast_18 : decode cX9_mayLast 18 = .ok (.iconst 0, 1) := by decide +kernel
theorem dX9_mayLast_19 : decode cX9_mayLast 19 = .ok (.ireturn, 1) := by decide +kernel
theorem dX9_walk_0 : decode cX9_walk 0 = .ok (.iload_n 1, 1) := by decide +kernel
theorem dX9_walk_1 : decode cX9_walk 1 = .ok (.ifCond .ne 7, 3) := by decide +kernel
theorem dX9_walk_4 : decode cX9_walk 4 = .ok (.iconst 0, 1) := by decide +kernel
theorem dX9_walk_5 : decode cX9_walk 5 = .ok (.goto 6, 3) := by decide +kernel
theorem dX9_walk_8 : decode cX9_walk 8 = .ok (.iload_n 1, 1) := by decide +kernel
theorem dX9_walk_9 : decode cX9_walk 9 = .ok (.iconst 1, 1) := by decide +kernel
theorem dX9_walk_10 : decode cX9_walk 10 = .ok (.isub, 1) := by decide +kernel
theorem dX9_walk_11 : decode cX9_walk 11 = .ok (.istore_n 3, 1) := by decide +kernel
theorem dX9_walk_12 : decode cX9_walk 12 = .ok (.aload_n 0, 1) := by decide +kernel
theorem dX9_walk_13 : decode cX9_walk 13 = .ok (.getfield 13, 3) := by decide +kernel
theorem dX9_walk_16 : decode cX9_walk 16 = .ok (.iconst 4, 1) := by decide +kernel
theorem dX9_walk_17 : decode cX9_walk 17 = .ok (.iaload, 1) := by decide +kernel
theorem dX9_walk_18 : decode cX9_walk 18 = .ok (.iload_n 3, 1) := by decide +kernel
theorem dX9_walk_19 : decode cX9_walk 19 = .ok (.iload_n 2, 1) := by decide +kernel
theorem dX9_walk_20 : decode cX9_walk 20 = .ok (.if_icmp .ge 9, 3) := by decide +kernel
theorem dX9_walk_23 : decode cX9_walk 23 = .ok (.iload_n 2, 1) := by decide +kernel
theorem dX9_walk_24 : decode cX9_walk 24 = .ok (.iload_n 3, 1) := by decide +kernel
theorem dX9_walk_25 : decode cX9_walk 25 = .ok (.isub, 1) := by decide +kernel
theorem dX9_walk_26 : decode cX9_walk 26 = .ok (.goto 6, 3) := by decide +kernel
theorem dX9_walk_29 : decode cX9_walk 29 = .ok (.iload_n 3, 1) := by decide +kernel
theorem dX9_walk_30 : decode cX9_walk 30 = .ok (.iload_n 2, 1) := by decide +kernel
theorem dX9_walk_31 : decode cX9_walk 31 = .ok (.isub, 1) := by decide +kernel
theorem dX9_walk_32 : decode cX9_walk 32 = .ok (.imul, 1) := by decide +kernel
theorem dX9_walk_33 : decode cX9_walk 33 = .ok (.ireturn, 1) := by decide +kernel
theorem dX9_goes_0 : decode cX9_goes 0 = .ok (.aload_n 0, 1) := by decide +kernel
theorem dX9_goes_1 : decode cX9_goes 1 = .ok (.iconst 0, 1) := by decide +kernel
theorem dX9_goes_2 : decode cX9_goes 2 = .ok (.putfield 74, 3) := by decide +kernel
theorem dX9_goes_5 : decode cX9_goes 5 = .ok (.aload_n 0, 1) := by decide +kernel
theorem dX9_goes_6 : decode cX9_goes 6 = .ok (.iload_n 1, 1) := by decide +kernel
theorem dX9_goes_7 : decode cX9_goes 7 = .ok (.invokevirtual 142, 3) := by decide +kernel
theorem dX9_goes_10 : decode cX9_goes 10 = .ok (.ifCond .ne 5, 3) := by decide +kernel
theorem dX9_goes_13 : decode cX9_goes 13 = .ok (.iconst (-1), 1) := by decide +kernel
theorem dX9_goes_14 : decode cX9_goes 14 = .ok (.ireturn, 1) := by decide +kernel
theorem dX9_goes_15 : decode cX9_goes 15 = .ok (.aload_n 0, 1) := by decide +kernel
theorem dX9_goes_16 : decode cX9_goes 16 = .ok (.aload_n 0, 1) := by decide +kernel
theorem dX9_goes_17 : decode cX9_goes 17 = .ok (.getfield 34, 3) := by decide +kernel
theorem dX9_goes_20 : decode cX9_goes 20 = .ok (.iconst 1, 1) := by decide +kernel
theorem dX9_goes_21 : decode cX9_goes 21 = .ok (.iaload, 1) := by decide +kernel
theorem dX9_goes_22 : decode cX9_goes 22 = .ok (.iload_n 1, 1) := by decide +kernel
theorem dX9_goes_23 : decode cX9_goes 23 = .ok (.invokevirtual 159, 3) := by decide +kernel
theorem dX9_goes_26 : decode cX9_goes 26 = .ok (.istore_n 2, 1) := by decide +kernel
theorem dX9_goes_27 : decode cX9_goes 27 = .ok (.aload_n 0, 1) := by decide +kernel
theorem dX9_goes_28 : decode cX9_goes 28 = .ok (.iload_n 1, 1) := by decide +kernel
theorem dX9_goes_29 : decode cX9_goes 29 = .ok (.invokevirtual 146, 3) := by decide +kernel
theorem dX9_goes_32 : decode cX9_goes 32 = .ok (.ifCond .ne 23, 3) := by decide +kernel
theorem dX9_goes_35 : decode cX9_goes 35 = .ok (.aload_n 0, 1) := by decide +kernel
theorem dX9_goes_36 : decode cX9_goes 36 = .ok (.getfield 34, 3) := by decide +kernel
theorem dX9_goes_39 : decode cX9_goes 39 = .ok (.iconst 0, 1) := by decide +kernel
theorem dX9_goes_40 : decode cX9_goes 40 = .ok (.iaload, 1) := by decide +kernel
theorem dX9_goes_41 : decode cX9_goes 41 = .ok (.iload_n 1, 1) := by decide +kernel
theorem dX9_goes_42 : decode cX9_goes 42 = .ok (.iconst 1, 1) := by decide +kernel
theorem dX9_goes_43 : decode cX9_goes 43 = .ok (.iadd, 1) := by decide +kernel
theorem dX9_goes_44 : decode cX9_goes 44 = .ok (.if_icmp .eq 11, 3) := by decide +kernel
theorem dX9_goes_47 : decode cX9_goes 47 = .ok (.aload_n 0, 1) := by decide +kernel
theorem dX9_goes_48 : decode cX9_goes 48 = .ok (.iload_n 2, 1) := by decide +kernel
theorem dX9_goes_49 : decode cX9_goes 49 = .ok (.invokevirtual 162, 3) := by decide +kernel
theorem dX9_goes_52 : decode cX9_goes 52 = .ok (.ifCond .ne 6, 3) := by decide +kernel
theorem dX9_goes_55 : decode cX9_goes 55 = .ok (.bipush (-2), 2) := by decide +kernel
theorem dX9_goes_57 : decode cX9_goes 57 = .ok (.ireturn, 1) := by decide +kernel
theorem dX9_goes_58 : decode cX9_goes 58 = .ok (.aload_n 0, 1) := by decide +kernel
theorem dX9_goes_59 : decode cX9_goes 59 = .ok (.invokevirtual 165, 3) := by decide +kernel
theorem dX9_goes_62 : decode cX9_goes 62 = .ok (.aload_n 0, 1) := by decide +kernel
theorem dX9_goes_63 : decode cX9_goes 63 = .ok (.getfield 34, 3) := by decide +kernel
theorem dX9_goes_66 : decode cX9_goes 66 = .ok (.iconst 0, 1) := by decide +kernel
theorem dX9_goes_67 : decode cX9_goes 67 = .ok (.iload_n 1, 1) := by decide +kernel
theorem dX9_goes_68 : decode cX9_goes 68 = .ok (.iconst 1, 1) := by decide +kernel
theorem dX9_goes_69 : decode cX9_goes 69 = .ok (.iadd, 1) := by decide +kernel
theorem dX9_goes_70 : decode cX9_goes 70 = .ok (.iastore, 1) := by decide +kernel
theorem dX9_goes_71 : decode cX9_goes 71 = .ok (.aload_n 0, 1) := by decide +kernel
theorem dX9_goes_72 : decode cX9_goes 72 = .ok (.getfield 34, 3) := by decide +kernel
theorem dX9_goes_75 : decode cX9_goes 75 = .ok (.iconst 1, 1) := by decide +kernel
theorem dX9_goes_76 : decode cX9_goes 76 = .ok (.iload_n 1, 1) := by decide +kernel
theorem dX9_goes_77 : decode cX9_goes 77 = .ok (.iconst 1, 1) := by decide +kernel
theorem dX9_goes_78 : decode cX9_goes 78 = .ok (.iadd, 1) := by decide +kernel
theorem dX9_goes_79 : decode cX9_goes 79 = .ok (.iastore, 1) := by decide +kernel
theorem dX9_goes_80 : decode cX9_goes 80 = .ok (.aload_n 0, 1) := by decide +kernel
theorem dX9_goes_81 : decode cX9_goes 81 = .ok (.getfield 34, 3) := by decide +kernel
theorem dX9_goes_84 : decode cX9_goes 84 = .ok (.iconst 2, 1) := by decide +kernel
theorem dX9_goes_85 : decode cX9_goes 85 = .ok (.dup2, 1) := by decide +kernel
theorem dX9_goes_86 : decode cX9_goes 86 = .ok (.iaload, 1) := by decide +kernel
theorem dX9_goes_87 : decode cX9_goes 87 = .ok (.iload_n 2, 1) := by decide +kernel
theorem dX9_goes_88 : decode cX9_goes 88 = .ok (.iadd, 1) := by decide +kernel
theorem dX9_goes_89 : decode cX9_goes 89 = .ok (.iastore, 1) := by decide +kernel
theorem dX9_goes_90 : decode cX9_goes 90 = .ok (.iload_n 2, 1) := by decide +kernel
theorem dX9_goes_91 : decode cX9_goes 91 = .ok (.ireturn, 1) := by decide +kernel
theorem dX9_hurt_0 : decode cX9_hurt 0 = .ok (.aload_n 0, 1) := by decide +kernel
theorem dX9_hurt_1 : decode cX9_hurt 1 = .ok (.getfield 25, 3) := by decide +kernel
theorem dX9_hurt_4 : decode cX9_hurt 4 = .ok (.iload_n 2, 1) := by decide +kernel
theorem dX9_hurt_5 : decode cX9_hurt 5 = .ok (.iaload, 1) := by decide +kernel
theorem dX9_hurt_6 : decode cX9_hurt 6 = .ok (.aload_n 0, 1) := by decide +kernel
theorem dX9_hurt_7 : decode cX9_hurt 7 = .ok (.getfield 19, 3) := by decide +kernel
theorem dX9_hurt_10 : decode cX9_hurt 10 = .ok (.iload_n 1, 1) := by decide +kernel
theorem dX9_hurt_11 : decode cX9_hurt 11 = .ok (.iaload, 1) := by decide +kernel
theorem dX9_hurt_12 : decode cX9_hurt 12 = .ok (.imul, 1) := by decide +kernel
theorem dX9_hurt_13 : decode cX9_hurt 13 = .ok (.istore 4, 2) := by decide +kernel
theorem dX9_hurt_15 : decode cX9_hurt 15 = .ok (.iload_n 3, 1) := by decide +kernel
theorem dX9_hurt_16 : decode cX9_hurt 16 = .ok (.iload_n 2, 1) := by decide +kernel
theorem dX9_hurt_17 : decode cX9_hurt 17 = .ok (.iconst 1, 1) := by decide +kernel
theorem dX9_hurt_18 : decode cX9_hurt 18 = .ok (.iadd, 1) := by decide +kernel
theorem dX9_hurt_19 : decode cX9_hurt 19 = .ok (.if_icmp .ne 10, 3) := by decide +kernel
theorem dX9_hurt_22 : decode cX9_hurt 22 = .ok (.iload 4, 2) := by decide +kernel
theorem dX9_hurt_24 : decode cX9_hurt 24 = .ok (.iconst 2, 1) := by decide +kernel
theorem dX9_hurt_25 : decode cX9_hurt 25 = .ok (.idiv, 1) := by decide +kernel
theorem dX9_hurt_26 : decode cX9_hurt 26 = .ok (.goto 5, 3) := by decide +kernel
theorem dX9_hurt_29 : decode cX9_hurt 29 = .ok (.iload 4, 2) := by decide +kernel
theorem dX9_hurt_31 : decode cX9_hurt 31 = .ok (.ireturn, 1) := by decide +kernel
theorem dX9_does_0 : decode cX9_does 0 = .ok (.aload_n 0, 1) := by decide +kernel
theorem dX9_does_1 : decode cX9_does 1 = .ok (.iconst 0, 1) := by decide +kernel
theorem dX9_does_2 : decode cX9_does 2 = .ok (.putfield 74, 3) := by decide +kernel
theorem dX9_does_5 : decode cX9_does 5 = .ok (.aload_n 0, 1) := by decide +kernel
theorem dX9_does_6 : decode cX9_does 6 = .ok (.iload_n 1, 1) := by decide +kernel
theorem dX9_does_7 : decode cX9_does 7 = .ok (.invokevirtual 149, 3) := by decide +kernel
theorem dX9_does_10 : decode cX9_does 10 = .ok (.ifCond .ne 5, 3) := by decide +kernel
theorem dX9_does_13 : decode cX9_does 13 = .ok (.iconst (-1), 1) := by decide +kernel
theorem dX9_does_14 : decode cX9_does 14 = .ok (.ireturn, 1) := by decide +kernel
theorem dX9_does_15 : decode cX9_does 15 = .ok (.aload_n 0, 1) := by decide +kernel
theorem dX9_does_16 : decode cX9_does 16 = .ok (.getfield 34, 3) := by decide +kernel
theorem dX9_does_19 : decode cX9_does 19 = .ok (.iconst 0, 1) := by decide +kernel
theorem dX9_does_20 : decode cX9_does 20 = .ok (.iaload, 1) := by decide +kernel
theorem dX9_does_21 : decode cX9_does 21 = .ok (.ifCond .eq 16, 3) := by decide +kernel
theorem dX9_does_24 : decode cX9_does 24 = .ok (.aload_n 0, 1) := by decide +kernel
theorem dX9_does_25 : decode cX9_does 25 = .ok (.aload_n 0, 1) := by decide +kernel
theorem dX9_does_26 : decode cX9_does 26 = .ok (.getfield 28, 3) := by decide +kernel
theorem dX9_does_29 : decode cX9_does 29 = .ok (.iload_n 1, 1) := by decide +kernel
theorem dX9_does_30 : decode cX9_does 30 = .ok (.iaload, 1) := by decide +kernel
theorem dX9_does_31 : decode cX9_does 31 = .ok (.invokevirtual 162, 3) := by decide +kernel
theorem dX9_does_34 : decode cX9_does 34 = .ok (.ifCond .ne 6, 3) := by decide +kernel
theorem dX9_does_37 : decode cX9_does 37 = .ok (.bipush (-2), 2) := by decide +kernel
theorem dX9_does_39 : decode cX9_does 39 = .ok (.ireturn, 1) := by decide +kernel
theorem dX9_does_40 : decode cX9_does 40 = .ok (.aload_n 0, 1) := by decide +kernel
theorem dX9_does_41 : decode cX9_does 41 = .ok (.invokevirtual 165, 3) := by decide +kernel
theorem dX9_does_44 : decode cX9_does 44 = .ok (.aload_n 0, 1) := by decide +kernel
theorem dX9_does_45 : decode cX9_does 45 = .ok (.getfield 34, 3) := by decide +kernel
theorem dX9_does_48 : decode cX9_does 48 = .ok (.iconst 0, 1) := by decide +kernel
theorem dX9_does_49 : decode cX9_does 49 = .ok (.iaload, 1) := by decide +kernel
theorem dX9_does_50 : decode cX9_does 50 = .ok (.iconst 1, 1) := by decide +kernel
theorem dX9_does_51 : decode cX9_does 51 = .ok (.isub, 1) := by decide +kernel
theorem dX9_does_52 : decode cX9_does 52 = .ok (.istore_n 2, 1) := by decide +kernel
theorem dX9_does_53 : decode cX9_does 53 = .ok (.aload_n 0, 1) := by decide +kernel
theorem dX9_does_54 : decode cX9_does 54 = .ok (.getfield 34, 3) := by decide +kernel
theorem dX9_does_57 : decode cX9_does 57 = .ok (.iconst 2, 1) := by decide +kernel
theorem dX9_does_58 : decode cX9_does 58 = .ok (.dup2, 1) := by decide +kernel
theorem dX9_does_59 : decode cX9_does 59 = .ok (.iaload, 1) := by decide +kernel
theorem dX9_does_60 : decode cX9_does 60 = .ok (.aload_n 0, 1) := by decide +kernel
theorem dX9_does_61 : decode cX9_does 61 = .ok (.getfield 28, 3) := by decide +kernel
theorem dX9_does_64 : decode cX9_does 64 = .ok (.iload_n 1, 1) := by decide +kernel
theorem dX9_does_65 : decode cX9_does 65 = .ok (.iaload, 1) := by decide +kernel
theorem dX9_does_66 : decode cX9_does 66 = .ok (.iadd, 1) := by decide +kernel
theorem dX9_does_67 : decode cX9_does 67 = .ok (.iastore, 1) := by decide +kernel
theorem dX9_does_68 : decode cX9_does 68 = .ok (.aload_n 0, 1) := by decide +kernel
theorem dX9_does_69 : decode cX9_does 69 = .ok (.getfield 34, 3) := by decide +kernel
theorem dX9_does_72 : decode cX9_does 72 = .ok (.iconst 5, 1) := by decide +kernel
theorem dX9_does_73 : decode cX9_does 73 = .ok (.iload_n 2, 1) := by decide +kernel
theorem dX9_does_74 : decode cX9_does 74 = .ok (.iadd, 1) := by decide +kernel
theorem dX9_does_75 : decode cX9_does 75 = .ok (.dup2, 1) := by decide +kernel
theorem dX9_does_76 : decode cX9_does 76 = .ok (.iaload, 1) := by decide +kernel
theorem dX9_does_77 : decode cX9_does 77 = .ok (.aload_n 0, 1) := by decide +kernel
theorem dX9_does_78 : decode cX9_does 78 = .ok (.iload_n 2, 1) := by decide +kernel
theorem dX9_does_79 : decode cX9_does 79 = .ok (.iload_n 1, 1) := by decide +kernel
theorem dX9_does_80 : decode cX9_does 80 = .ok (.aload_n 0, 1) := by decide +kernel
theorem dX9_does_81 : decode cX9_does 81 = .ok (.getfield 34, 3) := by decide +kernel
theorem dX9_does_84 : decode cX9_does 84 = .ok (.bipush 10, 2) := by decide +kernel
theorem dX9_does_86 : decode cX9_does 86 = .ok (.iload_n 2, 1) := by decide +kernel
theorem dX9_does_87 : decode cX9_does 87 = .ok (.iadd, 1) := by decide +kernel
theorem dX9_does_88 : decode cX9_does 88 = .ok (.iaload, 1) := by decide +kernel
theorem dX9_does_89 : decode cX9_does 89 = .ok (.invokevirtual 168, 3) := by decide +kernel
theorem dX9_does_92 : decode cX9_does 92 = .ok (.isub, 1) := by decide +kernel
theorem dX9_does_93 : decode cX9_does 93 = .ok (.iastore, 1) := by decide +kernel
theorem dX9_does_94 : decode cX9_does 94 = .ok (.aload_n 0, 1) := by decide +kernel
theorem dX9_does_95 : decode cX9_does 95 = .ok (.getfield 34, 3) := by decide +kernel
theorem dX9_does_98 : decode cX9_does 98 = .ok (.bipush 10, 2) := by decide +kernel
theorem dX9_does_100 : decode cX9_does 100 = .ok (.iload_n 2, 1) := by decide +kernel
theorem dX9_does_101 : decode cX9_does 101 = .ok (.iadd, 1) := by decide +kernel
theorem dX9_does_102 : decode cX9_does 102 = .ok (.iload_n 1, 1) := by decide +kernel
theorem dX9_does_103 : decode cX9_does 103 = .ok (.iconst 1, 1) := by decide +kernel
theorem dX9_does_104 : decode cX9_does 104 = .ok (.iadd, 1) := by decide +kernel
theorem dX9_does_105 : decode cX9_does 105 = .ok (.iastore, 1) := by decide +kernel
theorem dX9_does_106 : decode cX9_does 106 = .ok (.aload_n 0, 1) := by decide +kernel
theorem dX9_does_107 : decode cX9_does 107 = .ok (.getfield 34, 3) := by decide +kernel
theorem dX9_does_110 : decode cX9_does 110 = .ok (.iconst 5, 1) := by decide +kernel
theorem dX9_does_111 : decode cX9_does 111 = .ok (.iload_n 2, 1) := by decide +kernel
theorem dX9_does_112 : decode cX9_does 112 = .ok (.iadd, 1) := by decide +kernel
theorem dX9_does_113 : decode cX9_does 113 = .ok (.iaload, 1) := by decide +kernel
theorem dX9_does_114 : decode cX9_does 114 = .ok (.ifCond .lt 5, 3) := by decide +kernel
theorem dX9_does_117 : decode cX9_does 117 = .ok (.iconst 0, 1) := by decide +kernel
theorem dX9_does_118 : decode cX9_does 118 = .ok (.ireturn, 1) := by decide +kernel
theorem dX9_does_119 : decode cX9_does 119 = .ok (.aload_n 0, 1) := by decide +kernel
theorem dX9_does_120 : decode cX9_does 120 = .ok (.getfield 34, 3) := by decide +kernel
theorem dX9_does_123 : decode cX9_does 123 = .ok (.iconst 3, 1) := by decide +kernel
theorem dX9_does_124 : decode cX9_does 124 = .ok (.dup2, 1) := by decide +kernel
theorem dX9_does_125 : decode cX9_does 125 = .ok (.iaload, 1) := by decide +kernel
theorem dX9_does_126 : decode cX9_does 126 = .ok (.iconst 1, 1) := by decide +kernel
theorem dX9_does_127 : decode cX9_does 127 = .ok (.iload_n 2, 1) := by decide +kernel
theorem dX9_does_128 : decode cX9_does 128 = .ok (.ishl, 1) := by decide +kernel
theorem dX9_does_129 : decode cX9_does 129 = .ok (.ior, 1) := by decide +kernel
theorem dX9_does_130 : decode cX9_does 130 = .ok (.iastore, 1) := by decide +kernel
theorem dX9_does_131 : decode cX9_does 131 = .ok (.aload_n 0, 1) := by decide +kernel
theorem dX9_does_132 : decode cX9_does 132 = .ok (.getfield 34, 3) := by decide +kernel
theorem dX9_does_135 : decode cX9_does 135 = .ok (.iconst 0, 1) := by decide +kernel
theorem dX9_does_136 : decode cX9_does 136 = .ok (.iconst 0, 1) := by decide +kernel
theorem dX9_does_137 : decode cX9_does 137 = .ok (.iastore, 1) := by decide +kernel
theorem dX9_does_138 : decode cX9_does 138 = .ok (.iconst 1, 1) := by decide +kernel
theorem dX9_does_139 : decode cX9_does 139 = .ok (.ireturn, 1) := by decide +kernel
theorem dX9_asks_0 : decode cX9_asks 0 = .ok (.aload_n 0, 1) := by decide +kernel
theorem dX9_asks_1 : decode cX9_asks 1 = .ok (.iconst 0, 1) := by decide +kernel
theorem dX9_asks_2 : decode cX9_asks 2 = .ok (.putfield 74, 3) := by decide +kernel
theorem dX9_asks_5 : decode cX9_asks 5 = .ok (.iload_n 1, 1) := by decide +kernel
theorem dX9_asks_6 : decode cX9_asks 6 = .ok (.iconst 0, 1) := by decide +kernel
theorem dX9_asks_7 : decode cX9_asks 7 = .ok (.iconst 4, 1) := by decide +kernel
theorem dX9_asks_8 : decode cX9_asks 8 = .ok (.invokestatic 78, 3) := by decide +kernel
theorem dX9_asks_11 : decode cX9_asks 11 = .ok (.ifCond .ne 5, 3) := by decide +kernel
theorem dX9_asks_14 : decode cX9_asks 14 = .ok (.iconst (-1), 1) := by decide +kernel
theorem dX9_asks_15 : decode cX9_asks 15 = .ok (.ireturn, 1) := by decide +kernel
theorem dX9_asks_16 : decode cX9_asks 16 = .ok (.aload_n 0, 1) := by decide +kernel
theorem dX9_asks_17 : decode cX9_asks 17 = .ok (.getfield 34, 3) := by decide +kernel
theorem dX9_asks_20 : decode cX9_asks 20 = .ok (.iconst 0, 1) := by decide +kernel
theorem dX9_asks_21 : decode cX9_asks 21 = .ok (.iaload, 1) := by decide +kernel
theorem dX9_asks_22 : decode cX9_asks 22 = .ok (.ifCond .eq 34, 3) := by decide +kernel
theorem dX9_asks_25 : decode cX9_asks 25 = .ok (.aload_n 0, 1) := by decide +kernel
theorem dX9_asks_26 : decode cX9_asks 26 = .ok (.getfield 34, 3) := by decide +kernel
theorem dX9_asks_29 : decode cX9_asks 29 = .ok (.iconst 4, 1) := by decide +kernel
theorem dX9_asks_30 : decode cX9_asks 30 = .ok (.iaload, 1) := by decide +kernel
theorem dX9_asks_31 : decode cX9_asks 31 = .ok (.iload_n 1, 1) := by decide +kernel
theorem dX9_asks_32 : decode cX9_asks 32 = .ok (.ishr, 1) := by decide +kernel
theorem dX9_asks_33 : decode cX9_asks 33 = .ok (.iconst 1, 1) := by decide +kernel
theorem dX9_asks_34 : decode cX9_asks 34 = .ok (.iand, 1) := by decide +kernel
theorem dX9_asks_35 : decode cX9_asks 35 = .ok (.iconst 1, 1) := by decide +kernel
theorem dX9_asks_36 : decode cX9_asks 36 = .ok (.if_icmp .eq 20, 3) := by decide +kernel
theorem dX9_asks_39 : decode cX9_asks 39 = .ok (.aload_n 0, 1) := by decide +kernel
theorem dX9_asks_40 : decode cX9_asks 40 = .ok (.getfield 13, 3) := by decide +kernel
theorem dX9_asks_43 : decode cX9_asks 43 = .ok (.iconst 2, 1) := by decide +kernel
theorem dX9_asks_44 : decode cX9_asks 44 = .ok (.iaload, 1) := by decide +kernel
theorem dX9_asks_45 : decode cX9_asks 45 = .ok (.ifCond .eq 11, 3) := by decide +kernel
theorem dX9_asks_48 : decode cX9_asks 48 = .ok (.aload_n 0, 1) := by decide +kernel
theorem dX9_asks_49 : decode cX9_asks 49 = .ok (.iconst 2, 1) := by decide +kernel
theorem dX9_asks_50 : decode cX9_asks 50 = .ok (.invokevirtual 162, 3) := by decide +kernel
theorem dX9_asks_53 : decode cX9_asks 53 = .ok (.ifCond .ne 6, 3) := by decide +kernel
theorem dX9_asks_56 : decode cX9_asks 56 = .ok (.bipush (-2), 2) := by decide +kernel
theorem dX9_asks_58 : decode cX9_asks 58 = .ok (.ireturn, 1) := by decide +kernel
theorem dX9_asks_59 : decode cX9_asks 59 = .ok (.aload_n 0, 1) := by decide +kernel
theorem dX9_asks_60 : decode cX9_asks 60 = .ok (.invokevirtual 165, 3) := by decide +kernel
theorem dX9_asks_63 : decode cX9_asks 63 = .ok (.aload_n 0, 1) := by decide +kernel
theorem dX9_asks_64 : decode cX9_asks 64 = .ok (.getfield 34, 3) := by decide +kernel
theorem dX9_asks_67 : decode cX9_asks 67 = .ok (.iconst 2, 1) := by decide +kernel
theorem dX9_asks_68 : decode cX9_asks 68 = .ok (.dup2, 1) := by decide +kernel
theorem dX9_asks_69 : decode cX9_asks 69 = .ok (.iaload, 1) := by decide +kernel
theorem dX9_asks_70 : decode cX9_asks 70 = .ok (.iconst 2, 1) := by decide +kernel
theorem dX9_asks_71 : decode cX9_asks 71 = .ok (.iadd, 1) := by decide +kernel
theorem dX9_asks_72 : decode cX9_asks 72 = .ok (.iastore, 1) := by decide +kernel
theorem dX9_asks_73 : decode cX9_asks 73 = .ok (.aload_n 0, 1) := by decide +kernel
theorem dX9_asks_74 : decode cX9_asks 74 = .ok (.getfield 34, 3) := by decide +kernel
theorem dX9_asks_77 : decode cX9_asks 77 = .ok (.iconst 4, 1) := by decide +kernel
theorem dX9_asks_78 : decode cX9_asks 78 = .ok (.dup2, 1) := by decide +kernel
theorem dX9_asks_79 : decode cX9_asks 79 = .ok (.iaload, 1) := by decide +kernel
theorem dX9_asks_80 : decode cX9_asks 80 = .ok (.iconst 1, 1) := by decide +kernel
theorem dX9_asks_81 : decode cX9_asks 81 = .ok (.iload_n 1, 1) := by decide +kernel
theorem dX9_asks_82 : decode cX9_asks 82 = .ok (.ishl, 1) := by decide +kernel
theorem dX9_asks_83 : decode cX9_asks 83 = .ok (.ior, 1) := by decide +kernel
theorem dX9_asks_84 : decode cX9_asks 84 = .ok (.iastore, 1) := by decide +kernel
theorem dX9_asks_85 : decode cX9_asks 85 = .ok (.aload_n 0, 1) := by decide +kernel
theorem dX9_asks_86 : decode cX9_asks 86 = .ok (.getfield 31, 3) := by decide +kernel
theorem dX9_asks_89 : decode cX9_asks 89 = .ok (.aload_n 0, 1) := by decide +kernel
theorem dX9_asks_90 : decode cX9_asks 90 = .ok (.getfield 13, 3) := by decide +kernel
theorem dX9_asks_93 : decode cX9_asks 93 = .ok (.iconst 3, 1) := by decide +kernel
theorem dX9_asks_94 : decode cX9_asks 94 = .ok (.iaload, 1) := by decide +kernel
theorem dX9_asks_95 : decode cX9_asks 95 = .ok (.iaload, 1) := by decide +kernel
theorem dX9_asks_96 : decode cX9_asks 96 = .ok (.iload_n 1, 1) := by decide +kernel
theorem dX9_asks_97 : decode cX9_asks 97 = .ok (.ishr, 1) := by decide +kernel
theorem dX9_asks_98 : decode cX9_asks 98 = .ok (.iconst 1, 1) := by decide +kernel
theorem dX9_asks_99 : decode cX9_asks 99 = .ok (.iand, 1) := by decide +kernel
theorem dX9_asks_100 : decode cX9_asks 100 = .ok (.ireturn, 1) := by decide +kernel
theorem dX9_undo_0 : decode cX9_undo 0 = .ok (.aload_n 0, 1) := by decide +kernel
theorem dX9_undo_1 : decode cX9_undo 1 = .ok (.iconst 0, 1) := by decide +kernel
theorem dX9_undo_2 : decode cX9_undo 2 = .ok (.putfield 74, 3) := by decide +kernel
theorem dX9_undo_5 : decode cX9_undo 5 = .ok (.aload_n 0, 1) := by decide +kernel
theorem dX9_undo_6 : decode cX9_undo 6 = .ok (.getfield 139, 3) := by decide +kernel
theorem dX9_undo_9 : decode cX9_undo 9 = .ok (.ifCond .ne 6, 3) := by decide +kernel
theorem dX9_undo_12 : decode cX9_undo 12 = .ok (.bipush (-2), 2) := by decide +kernel
theorem dX9_undo_14 : decode cX9_undo 14 = .ok (.ireturn, 1) := by decide +kernel
theorem dX9_undo_15 : decode cX9_undo 15 = .ok (.aload_n 0, 1) := by decide +kernel
theorem dX9_undo_16 : decode cX9_undo 16 = .ok (.dup, 1) := by decide +kernel
theorem dX9_undo_17 : decode cX9_undo 17 = .ok (.getfield 139, 3) := by decide +kernel
theorem dX9_undo_20 : decode cX9_undo 20 = .ok (.iconst 1, 1) := by decide +kernel
theorem dX9_undo_21 : decode cX9_undo 21 = .ok (.isub, 1) := by decide +kernel
theorem dX9_undo_22 : decode cX9_undo 22 = .ok (.putfield 139, 3) := by decide +kernel
theorem dX9_undo_25 : decode cX9_undo 25 = .ok (.iconst 0, 1) := by decide +kernel
theorem dX9_undo_26 : decode cX9_undo 26 = .ok (.istore_n 1, 1) := by decide +kernel
theorem dX9_undo_27 : decode cX9_undo 27 = .ok (.iload_n 1, 1) := by decide +kernel
theorem dX9_undo_28 : decode cX9_undo 28 = .ok (.bipush 15, 2) := by decide +kernel
theorem dX9_undo_30 : decode cX9_undo 30 = .ok (.if_icmp .ge 29, 3) := by decide +kernel
theorem dX9_undo_33 : decode cX9_undo 33 = .ok (.aload_n 0, 1) := by decide +kernel
theorem dX9_undo_34 : decode cX9_undo 34 = .ok (.getfield 34, 3) := by decide +kernel
theorem dX9_undo_37 : decode cX9_undo 37 = .ok (.iload_n 1, 1) := by decide +kernel
theorem dX9_undo_38 : decode cX9_undo 38 = .ok (.aload_n 0, 1) := by decide +kernel
theorem dX9_undo_39 : decode cX9_undo 39 = .ok (.getfield 44, 3) := by decide +kernel
theorem dX9_undo_42 : decode cX9_undo 42 = .ok (.bipush 15, 2) := by decide +kernel
theorem dX9_undo_44 : decode cX9_undo 44 = .ok (.aload_n 0, 1) := by decide +kernel
theorem dX9_undo_45 : decode cX9_undo 45 = .ok (.getfield 139, 3) := by decide +kernel
theorem dX9_undo_48 : decode cX9_undo 48 = .ok (.imul, 1) := by decide +kernel
theorem dX9_undo_49 : decode cX9_undo 49 = .ok (.iload_n 1, 1) := by decide +kernel
theorem dX9_undo_50 : decode cX9_undo 50 = .ok (.iadd, 1) := by decide +kernel
theorem dX9_undo_51 : decode cX9_undo 51 = .ok (.iaload, 1) := by decide +kernel
theorem dX9_undo_52 : decode cX9_undo 52 = .ok (.iastore, 1) := by decide +kernel
theorem dX9_undo_53 : decode cX9_undo 53 = .ok (.iinc 1 1, 3) := by decide +kernel
theorem dX9_undo_56 : decode cX9_undo 56 = .ok (.goto (-29), 3) := by decide +kernel
theorem dX9_undo_59 : decode cX9_undo 59 = .ok (.aload_n 0, 1) := by decide +kernel
theorem dX9_undo_60 : decode cX9_undo 60 = .ok (.getfield 139, 3) := by decide +kernel
theorem dX9_undo_63 : decode cX9_undo 63 = .ok (.ireturn, 1) := by decide +kernel
theorem dX9_soonBy_0 : decode cX9_soonBy 0 = .ok (.iload_n 2, 1) := by decide +kernel
theorem dX9_soonBy_1 : decode cX9_soonBy 1 = .ok (.aload_n 0, 1) := by decide +kernel
theorem dX9_soonBy_2 : decode cX9_soonBy 2 = .ok (.iload_n 1, 1) := by decide +kernel
theorem dX9_soonBy_3 : decode cX9_soonBy 3 = .ok (.iload 4, 2) := by decide +kernel
theorem dX9_soonBy_5 : decode cX9_soonBy 5 = .ok (.iload_n 3, 1) := by decide +kernel
theorem dX9_soonBy_6 : decode cX9_soonBy 6 = .ok (.invokevirtual 168, 3) := by decide +kernel
theorem dX9_soonBy_9 : decode cX9_soonBy 9 = .ok (.isub, 1) := by decide +kernel
theorem dX9_soonBy_10 : decode cX9_soonBy 10 = .ok (.istore 5, 2) := by decide +kernel
theorem dX9_soonBy_12 : decode cX9_soonBy 12 = .ok (.sipush 1000, 3) := by decide +kernel
theorem dX9_soonBy_15 : decode cX9_soonBy 15 = .ok (.aload_n 0, 1) := by decide +kernel
theorem dX9_soonBy_16 : decode cX9_soonBy 16 = .ok (.getfield 28, 3) := by decide +kernel
theorem dX9_soonBy_19 : decode cX9_soonBy 19 = .ok (.iload 4, 2) := by decide +kernel
theorem dX9_soonBy_21 : decode cX9_soonBy 21 = .ok (.iaload, 1) := by decide +kernel
theorem dX9_soonBy_22 : decode cX9_soonBy 22 = .ok (.imul, 1) := by decide +kernel
theorem dX9_soonBy_23 : decode cX9_soonBy 23 = .ok (.iconst 1, 1) := by decide +kernel
theorem dX9_soonBy_24 : decode cX9_soonBy 24 = .ok (.iadd, 1) := by decide +kernel
theorem dX9_soonBy_25 : decode cX9_soonBy 25 = .ok (.iload 5, 2) := by decide +kernel
theorem dX9_soonBy_27 : decode cX9_soonBy 27 = .ok (.ifCond .ge 7, 3) := by decide +kernel
theorem dX9_soonBy_30 : decode cX9_soonBy 30 = .ok (.iconst 0, 1) := by decide +kernel
theorem dX9_soonBy_31 : decode cX9_soonBy 31 = .ok (.goto 18, 3) := by decide +kernel
theorem dX9_soonBy_34 : decode cX9_soonBy 34 = .ok (.aload_n 0, 1) := by decide +kernel
theorem dX9_soonBy_35 : decode cX9_soonBy 35 = .ok (.getfield 53, 3) := by decide +kernel
theorem dX9_soonBy_38 : decode cX9_soonBy 38 = .ok (.bipush 6, 2) := by decide +kernel
theorem dX9_soonBy_40 : decode cX9_soonBy 40 = .ok (.iload 5, 2) := by decide +kernel
theorem dX9_soonBy_42 : decode cX9_soonBy 42 = .ok (.imul, 1) := by decide +kernel
theorem dX9_soonBy_43 : decode cX9_soonBy 43 = .ok (.iload 4, 2) := by decide +kernel
theorem dX9_soonBy_45 : decode cX9_soonBy 45 = .ok (.iadd, 1) := by decide +kernel
theorem dX9_soonBy_46 : decode cX9_soonBy 46 = .ok (.iconst 1, 1) := by decide +kernel
theorem dX9_soonBy_47 : decode cX9_soonBy 47 = .ok (.iadd, 1) := by decide +kernel
theorem dX9_soonBy_48 : decode cX9_soonBy 48 = .ok (.iaload, 1) := by decide +kernel
theorem dX9_soonBy_49 : decode cX9_soonBy 49 = .ok (.iadd, 1) := by decide +kernel
theorem dX9_soonBy_50 : decode cX9_soonBy 50 = .ok (.istore 6, 2) := by decide +kernel
theorem dX9_soonBy_52 : decode cX9_soonBy 52 = .ok (.iload 6, 2) := by decide +kernel
theorem dX9_soonBy_54 : decode cX9_soonBy 54 = .ok (.ldc 172, 2) := by decide +kernel
theorem dX9_soonBy_56 : decode cX9_soonBy 56 = .ok (.if_icmp .le 8, 3) := by decide +kernel
theorem dX9_soonBy_59 : decode cX9_soonBy 59 = .ok (.ldc 172, 2) := by decide +kernel
theorem dX9_soonBy_61 : decode cX9_soonBy 61 = .ok (.goto 5, 3) := by decide +kernel
theorem dX9_soonBy_64 : decode cX9_soonBy 64 = .ok (.iload 6, 2) := by decide +kernel
theorem dX9_soonBy_66 : decode cX9_soonBy 66 = .ok (.ireturn, 1) := by decide +kernel
theorem dX9_measures_0 : decode cX9_measures 0 = .ok (.iconst 0, 1) := by decide +kernel
theorem dX9_measures_1 : decode cX9_measures 1 = .ok (.istore_n 2, 1) := by decide +kernel
theorem dX9_measures_2 : decode cX9_measures 2 = .ok (.iload_n 2, 1) := by decide +kernel
theorem dX9_measures_3 : decode cX9_measures 3 = .ok (.sipush 186, 3) := by decide +kernel
theorem dX9_measures_6 : decode cX9_measures 6 = .ok (.if_icmp .ge 17, 3) := by decide +kernel
theorem dX9_measures_9 : decode cX9_measures 9 = .ok (.aload_n 0, 1) := by decide +kernel
theorem dX9_measures_10 : decode cX9_measures 10 = .ok (.getfield 53, 3) := by decide +kernel
theorem dX9_measures_13 : decode cX9_measures 13 = .ok (.iload_n 2, 1) := by decide +kernel
theorem dX9_measures_14 : decode cX9_measures 14 = .ok (.ldc 172, 2) := by decide +kernel
theorem dX9_measures_16 : decode cX9_measures 16 = .ok (.iastore, 1) := by decide +kernel
theorem dX9_measures_17 : decode cX9_measures 17 = .ok (.iinc 2 1, 3) := by decide +kernel
theorem dX9_measures_20 : decode cX9_measures 20 = .ok (.goto (-18), 3) := by decide +kernel
theorem dX9_measures_23 : decode cX9_measures 23 = .ok (.aload_n 0, 1) := by decide +kernel
theorem dX9_measures_24 : decode cX9_measures 24 = .ok (.getfield 13, 3) := by decide +kernel
theorem dX9_measures_27 : decode cX9_measures 27 = .ok (.iconst 1, 1) := by decide +kernel
theorem dX9_measures_28 : decode cX9_measures 28 = .ok (.iaload, 1) := by decide +kernel
theorem dX9_measures_29 : decode cX9_measures 29 = .ok (.ifCond .le 7, 3) := by decide +kernel
theorem dX9_measures_32 : decode cX9_measures 32 = .ok (.iconst 1, 1) := by decide +kernel
theorem dX9_measures_33 : decode cX9_measures 33 = .ok (.goto 4, 3) := by decide +kernel
theorem dX9_measures_36 : decode cX9_measures 36 = .ok (.iconst 0, 1) := by decide +kernel
theorem dX9_measures_37 : decode cX9_measures 37 = .ok (.istore_n 2, 1) := by decide +kernel
theorem dX9_measures_38 : decode cX9_measures 38 = .ok (.iload_n 2, 1) := by decide +kernel
theorem dX9_measures_39 : decode cX9_measures 39 = .ok (.ifCond .eq 109, 3) := by decide +kernel
theorem dX9_measures_42 : decode cX9_measures 42 = .ok (.iconst 0, 1) := by decide +kernel
theorem dX9_measures_43 : decode cX9_measures 43 = .ok (.istore_n 2, 1) := by decide +kernel
theorem dX9_measures_44 : decode cX9_measures 44 = .ok (.iconst 0, 1) := by decide +kernel
theorem dX9_measures_45 : decode cX9_measures 45 = .ok (.istore_n 3, 1) := by decide +kernel
theorem dX9_measures_46 : decode cX9_measures 46 = .ok (.iload_n 3, 1) := by decide +kernel
theorem dX9_measures_47 : decode cX9_measures 47 = .ok (.sipush 186, 3) := by decide +kernel
theorem dX9_measures_50 : decode cX9_measures 50 = .ok (.if_icmp .ge 95, 3) := by decide +kernel
theorem dX9_measures_53 : decode cX9_measures 53 = .ok (.iconst 0, 1) := by decide +kernel
theorem dX9_measures_54 : decode cX9_measures 54 = .ok (.istore 4, 2) := by decide +kernel
theorem dX9_measures_56 : decode cX9_measures 56 = .ok (.iload 4, 2) := by decide +kernel
theorem dX9_measures_58 : decode cX9_measures 58 = .ok (.aload_n 0, 1) := by decide +kernel
theorem dX9_measures_59 : decode cX9_measures 59 = .ok (.getfield 13, 3) := by decide +kernel
theorem dX9_measures_62 : decode cX9_measures 62 = .ok (.iconst 1, 1) := by decide +kernel
theorem dX9_measures_63 : decode cX9_measures 63 = .ok (.iaload, 1) := by decide +kernel
theorem dX9_measures_64 : decode cX9_measures 64 = .ok (.if_icmp .ge 75, 3) := by decide +kernel
theorem dX9_measures_67 : decode cX9_measures 67 = .ok (.aload_n 0, 1) := by decide +kernel
theorem dX9_measures_68 : decode cX9_measures 68 = .ok (.iload_n 1, 1) := by decide +kernel
theorem dX9_measures_69 : decode cX9_measures 69 = .ok (.iload_n 3, 1) := by decide +kernel
theorem dX9_measures_70 : decode cX9_measures 70 = .ok (.bipush 6, 2) := by decide +kernel
theorem dX9_measures_72 : decode cX9_measures 72 = .ok (.idiv, 1) := by decide +kernel
theorem dX9_measures_73 : decode cX9_measures 73 = .ok (.iload_n 3, 1) := by decide +kernel
theorem dX9_measures_74 : decode cX9_measures 74 = .ok (.bipush 6, 2) := by decide +kernel
theorem dX9_measures_76 : decode cX9_measures 76 = .ok (.irem, 1) := by decide +kernel
theorem dX9_measures_77 : decode cX9_measures 77 = .ok (.iload 4, 2) := by decide +kernel
theorem dX9_measures_79 : decode cX9_measures 79 = .ok (.invokevirtual 173, 3) := by decide +kernel
theorem dX9_measures_82 : decode cX9_measures 82 = .ok (.istore 5, 2) := by decide +kernel
theorem dX9_measures_84 : decode cX9_measures 84 = .ok (.iload_n 2, 1) := by decide +kernel
theorem dX9_measures_85 : decode cX9_measures 85 = .ok (.ifCond .ne 14, 3) := by decide +kernel
theorem dX9_measures_88 : decode cX9_measures 88 = .ok (.iload 5, 2) := by decide +kernel
theorem dX9_measures_90 : decode cX9_measures 90 = .ok (.aload_n 0, 1) := by decide +kernel
theorem dX9_measures_91 : decode cX9_measures 91 = .ok (.getfield 53, 3) := by decide +kernel
theorem dX9_measures_94 : decode cX9_measures 94 = .ok (.iload_n 3, 1) := by decide +kernel
theorem dX9_measures_95 : decode cX9_measures 95 = .ok (.iaload, 1) := by decide +kernel
theorem dX9_measures_96 : decode cX9_measures 96 = .ok (.if_icmp .ge 7, 3) := by decide +kernel
theorem dX9_measures_99 : decode cX9_measures 99 = .ok (.iconst 1, 1) := by decide +kernel
theorem dX9_measures_100 : decode cX9_measures 100 = .ok (.goto 4, 3) := by decide +kernel
theorem dX9_measures_103 : decode cX9_measures 103 = .ok (.iconst 0, 1) := by decide +kernel
theorem dX9_measures_104 : decode cX9_measures 104 = .ok (.istore_n 2, 1) := by decide +kernel
theorem dX9_measures_105 : decode cX9_measures 105 = .ok (.aload_n 0, 1) := by decide +kernel
theorem dX9_measures_106 : decode cX9_measures 106 = .ok (.getfield 53, 3) := by decide +kernel
theorem dX9_measures_109 : decode cX9_measures 109 = .ok (.iload_n 3, 1) := by decide +kernel
theorem dX9_measures_110 : decode cX9_measures 110 = .ok (.iload 5, 2) := by decide +kernel
theorem dX9_measures_112 : decode cX9_measures 112 = .ok (.aload_n 0, 1) := by decide +kernel
theorem dX9_measures_113 : decode cX9_measures 113 = .ok (.getfield 53, 3) := by decide +kernel
theorem dX9_measures_116 : decode cX9_measures 116 = .ok (.iload_n 3, 1) := by decide +kernel
theorem dX9_measures_117 : decode cX9_measures 117 = .ok (.iaload, 1) := by decide +kernel
theorem dX9_measures_118 : decode cX9_measures 118 = .ok (.if_icmp .ge 8, 3) := by decide +kernel
theorem dX9_measures_121 : decode cX9_measures 121 = .ok (.iload 5, 2) := by decide +kernel
theorem dX9_measures_123 : decode cX9_measures 123 = .ok (.goto 9, 3) := by decide +kernel
theorem dX9_measures_126 : decode cX9_measures 126 = .ok (.aload_n 0, 1) := by decide +kernel
theorem dX9_measures_127 : decode cX9_measures 127 = .ok (.getfield 53, 3) := by decide +kernel
theorem dX9_measures_130 : decode cX9_measures 130 = .ok (.iload_n 3, 1) := by decide +kernel
theorem dX9_measures_131 : decode cX9_measures 131 = .ok (.iaload, 1) := by decide +kernel
theorem dX9_measures_132 : decode cX9_measures 132 = .ok (.iastore, 1) := by decide +kernel
theorem dX9_measures_133 : decode cX9_measures 133 = .ok (.iinc 4 1, 3) := by decide +kernel
theorem dX9_measures_136 : decode cX9_measures 136 = .ok (.goto (-80), 3) := by decide +kernel
theorem dX9_measures_139 : decode cX9_measures 139 = .ok (.iinc 3 1, 3) := by decide +kernel
theorem dX9_measures_142 : decode cX9_measures 142 = .ok (.goto (-96), 3) := by decide +kernel
theorem dX9_measures_145 : decode cX9_measures 145 = .ok (.goto (-107), 3) := by decide +kernel
theorem dX9_measures_148 : decode cX9_measures 148 = .ok (.return_, 1) := by decide +kernel
theorem dX9_soonAt_0 : decode cX9_soonAt 0 = .ok (.aload_n 0, 1) := by decide +kernel
theorem dX9_soonAt_1 : decode cX9_soonAt 1 = .ok (.iload_n 1, 1) := by decide +kernel
theorem dX9_soonAt_2 : decode cX9_soonAt 2 = .ok (.invokevirtual 177, 3) := by decide +kernel
theorem dX9_soonAt_5 : decode cX9_soonAt 5 = .ok (.aload_n 0, 1) := by decide +kernel
theorem dX9_soonAt_6 : decode cX9_soonAt 6 = .ok (.getfield 53, 3) := by decide +kernel
theorem dX9_soonAt_9 : decode cX9_soonAt 9 = .ok (.bipush 6, 2) := by decide +kernel
theorem dX9_soonAt_11 : decode cX9_soonAt 11 = .ok (.aload_n 0, 1) := by decide +kernel
theorem dX9_soonAt_12 : decode cX9_soonAt 12 = .ok (.getfield 34, 3) := by decide +kernel
theorem dX9_soonAt_15 : decode cX9_soonAt 15 = .ok (.iconst 5, 1) := by decide +kernel
theorem dX9_soonAt_16 : decode cX9_soonAt 16 = .ok (.iload_n 1, 1) := by decide +kernel
theorem dX9_soonAt_17 : decode cX9_soonAt 17 = .ok (.iadd, 1) := by decide +kernel
theorem dX9_soonAt_18 : decode cX9_soonAt 18 = .ok (.iaload, 1) := by decide +kernel
theorem dX9_soonAt_19 : decode cX9_soonAt 19 = .ok (.imul, 1) := by decide +kernel
theorem dX9_soonAt_20 : decode cX9_soonAt 20 = .ok (.aload_n 0, 1) := by decide +kernel
theorem dX9_soonAt_21 : decode cX9_soonAt 21 = .ok (.getfield 34, 3) := by decide +kernel
theorem dX9_soonAt_24 : decode cX9_soonAt 24 = .ok (.bipush 10, 2) := by decide +kernel
theorem dX9_soonAt_26 : decode cX9_soonAt 26 = .ok (.iload_n 1, 1) := by decide +kernel
theorem dX9_soonAt_27 : decode cX9_soonAt 27 = .ok (.iadd, 1) := by decide +kernel
theorem dX9_soonAt_28 : decode cX9_soonAt 28 = .ok (.iaload, 1) := by decide +kernel
theorem dX9_soonAt_29 : decode cX9_soonAt 29 = .ok (.iadd, 1) := by decide +kernel
theorem dX9_soonAt_30 : decode cX9_soonAt 30 = .ok (.iaload, 1) := by decide +kernel
theorem dX9_soonAt_31 : decode cX9_soonAt 31 = .ok (.ireturn, 1) := by decide +kernel
theorem dX9_soonest_0 : decode cX9_soonest 0 = .ok (.aload_n 0, 1) := by decide +kernel
theorem dX9_soonest_1 : decode cX9_soonest 1 = .ok (.iconst 0, 1) := by decide +kernel
theorem dX9_soonest_2 : decode cX9_soonest 2 = .ok (.putfield 74, 3) := by decide +kernel
theorem dX9_soonest_5 : decode cX9_soonest 5 = .ok (.aload_n 0, 1) := by decide +kernel
theorem dX9_soonest_6 : decode cX9_soonest 6 = .ok (.iload_n 1, 1) := by decide +kernel
theorem dX9_soonest_7 : decode cX9_soonest 7 = .ok (.invokevirtual 142, 3) := by decide +kernel
theorem dX9_soonest_10 : decode cX9_soonest 10 = .ok (.ifCond .eq 9, 3) := by decide +kernel
theorem dX9_soonest_13 : decode cX9_soonest 13 = .ok (.iload_n 2, 1) := by decide +kernel
theorem dX9_soonest_14 : decode cX9_soonest 14 = .ok (.bipush (-2), 2) := by decide +kernel
theorem dX9_soonest_16 : decode cX9_soonest 16 = .ok (.if_icmp .ge 5, 3) := by decide +kernel
theorem dX9_soonest_19 : decode cX9_soonest 19 = .ok (.iconst (-1), 1) := by decide +kernel
theorem dX9_soonest_20 : decode cX9_soonest 20 = .ok (.ireturn, 1) := by decide +kernel
theorem dX9_soonest_21 : decode cX9_soonest 21 = .ok (.aload_n 0, 1) := by decide +kernel
theorem dX9_soonest_22 : decode cX9_soonest 22 = .ok (.iload_n 1, 1) := by decide +kernel
theorem dX9_soonest_23 : decode cX9_soonest 23 = .ok (.invokevirtual 146, 3) := by decide +kernel
theorem dX9_soonest_26 : decode cX9_soonest 26 = .ok (.ifCond .eq 6, 3) := by decide +kernel
theorem dX9_soonest_29 : decode cX9_soonest 29 = .ok (.bipush (-2), 2) := by decide +kernel
theorem dX9_soonest_31 : decode cX9_soonest 31 = .ok (.ireturn, 1) := by decide +kernel
theorem dX9_soonest_32 : decode cX9_soonest 32 = .ok (.aload_n 0, 1) := by decide +kernel
theorem dX9_soonest_33 : decode cX9_soonest 33 = .ok (.iload_n 1, 1) := by decide +kernel
theorem dX9_soonest_34 : decode cX9_soonest 34 = .ok (.invokevirtual 180, 3) := by decide +kernel
theorem dX9_soonest_37 : decode cX9_soonest 37 = .ok (.istore_n 3, 1) := by decide +kernel
theorem dX9_soonest_38 : decode cX9_soonest 38 = .ok (.iload_n 3, 1) := by decide +kernel
theorem dX9_soonest_39 : decode cX9_soonest 39 = .ok (.ldc 172, 2) := by decide +kernel
theorem dX9_soonest_41 : decode cX9_soonest 41 = .ok (.if_icmp .eq 7, 3) := by decide +kernel
theorem dX9_soonest_44 : decode cX9_soonest 44 = .ok (.iload_n 2, 1) := by decide +kernel
theorem dX9_soonest_45 : decode cX9_soonest 45 = .ok (.ifCond .ge 33, 3) := by decide +kernel
theorem dX9_soonest_48 : decode cX9_soonest 48 = .ok (.iload_n 3, 1) := by decide +kernel
theorem dX9_soonest_49 : decode cX9_soonest 49 = .ok (.ldc 172, 2) := by decide +kernel
theorem dX9_soonest_51 : decode cX9_soonest 51 = .ok (.if_icmp .ne 8, 3) := by decide +kernel
theorem dX9_soonest_54 : decode cX9_soonest 54 = .ok (.bipush (-9), 2) := by decide +kernel
theorem dX9_soonest_56 : decode cX9_soonest 56 = .ok (.goto 21, 3) := by decide +kernel
theorem dX9_soonest_59 : decode cX9_soonest 59 = .ok (.iload_n 2, 1) := by decide +kernel
theorem dX9_soonest_60 : decode cX9_soonest 60 = .ok (.iconst (-1), 1) := by decide +kernel
theorem dX9_soonest_61 : decode cX9_soonest 61 = .ok (.if_icmp .ne 11, 3) := by decide +kernel
theorem dX9_soonest_64 : decode cX9_soonest 64 = .ok (.iload_n 3, 1) := by decide +kernel
theorem dX9_soonest_65 : decode cX9_soonest 65 = .ok (.sipush 1000, 3) := by decide +kernel
theorem dX9_soonest_68 : decode cX9_soonest 68 = .ok (.idiv, 1) := by decide +kernel
theorem dX9_soonest_69 : decode cX9_soonest 69 = .ok (.goto 8, 3) := by decide +kernel
theorem dX9_soonest_72 : decode cX9_soonest 72 = .ok (.iload_n 3, 1) := by decide +kernel
theorem dX9_soonest_73 : decode cX9_soonest 73 = .ok (.sipush 1000, 3) := by decide +kernel
theorem dX9_soonest_76 : decode cX9_soonest 76 = .ok (.irem, 1) := by decide +kernel
theorem dX9_soonest_77 : decode cX9_soonest 77 = .ok (.ireturn, 1) := by decide +kernel
theorem dX9_soonest_78 : decode cX9_soonest 78 = .ok (.aload_n 0, 1) := by decide +kernel
theorem dX9_soonest_79 : decode cX9_soonest 79 = .ok (.getfield 34, 3) := by decide +kernel
theorem dX9_soonest_82 : decode cX9_soonest 82 = .ok (.iconst 5, 1) := by decide +kernel
theorem dX9_soonest_83 : decode cX9_soonest 83 = .ok (.iload_n 1, 1) := by decide +kernel
theorem dX9_soonest_84 : decode cX9_soonest 84 = .ok (.iadd, 1) := by decide +kernel
theorem dX9_soonest_85 : decode cX9_soonest 85 = .ok (.iaload, 1) := by decide +kernel
theorem dX9_soonest_86 : decode cX9_soonest 86 = .ok (.istore 4, 2) := by decide +kernel
theorem dX9_soonest_88 : decode cX9_soonest 88 = .ok (.aload_n 0, 1) := by decide +kernel
theorem dX9_soonest_89 : decode cX9_soonest 89 = .ok (.getfield 34, 3) := by decide +kernel
theorem dX9_soonest_92 : decode cX9_soonest 92 = .ok (.bipush 10, 2) := by decide +kernel
theorem dX9_soonest_94 : decode cX9_soonest 94 = .ok (.iload_n 1, 1) := by decide +kernel
theorem dX9_soonest_95 : decode cX9_soonest 95 = .ok (.iadd, 1) := by decide +kernel
theorem dX9_soonest_96 : decode cX9_soonest 96 = .ok (.iaload, 1) := by decide +kernel
theorem dX9_soonest_97 : decode cX9_soonest 97 = .ok (.istore 5, 2) := by decide +kernel
theorem dX9_soonest_99 : decode cX9_soonest 99 = .ok (.iconst 0, 1) := by decide +kernel
theorem dX9_soonest_100 : decode cX9_soonest 100 = .ok (.istore 6, 2) := by decide +kernel
theorem dX9_soonest_102 : decode cX9_soonest 102 = .ok (.iload 4, 2) := by decide +kernel
theorem dX9_soonest_104 : decode cX9_soonest 104 = .ok (.ifCond .lt 99, 3) := by decide +kernel
theorem dX9_soonest_107 : decode cX9_soonest 107 = .ok (.bipush (-9), 2) := by decide +kernel
theorem dX9_soonest_109 : decode cX9_soonest 109 = .ok (.istore 7, 2) := by decide +kernel
theorem dX9_soonest_111 : decode cX9_soonest 111 = .ok (.aload_n 0, 1) := by decide +kernel
theorem dX9_soonest_112 : decode cX9_soonest 112 = .ok (.getfield 13, 3) := by decide +kernel
theorem dX9_soonest_115 : decode cX9_soonest 115 = .ok (.iconst 1, 1) := by decide +kernel
theorem dX9_soonest_116 : decode cX9_soonest 116 = .ok (.iaload, 1) := by decide +kernel
theorem dX9_soonest_117 : decode cX9_soonest 117 = .ok (.iconst 1, 1) := by decide +kernel
theorem dX9_soonest_118 : decode cX9_soonest 118 = .ok (.isub, 1) := by decide +kernel
theorem dX9_soonest_119 : decode cX9_soonest 119 = .ok (.istore 8, 2) := by decide +kernel
theorem dX9_soonest_121 : decode cX9_soonest 121 = .ok (.iload 8, 2) := by decide +kernel
theorem dX9_soonest_123 : decode cX9_soonest 123 = .ok (.ifCond .lt 45, 3) := by decide +kernel
theorem dX9_soonest_126 : decode cX9_soonest 126 = .ok (.aload_n 0, 1) := by decide +kernel
theorem dX9_soonest_127 : decode cX9_soonest 127 = .ok (.iload_n 1, 1) := by decide +kernel
theorem dX9_soonest_128 : decode cX9_soonest 128 = .ok (.iload 4, 2) := by decide +kernel
theorem dX9_soonest_130 : decode cX9_soonest 130 = .ok (.iload 5, 2) := by decide +kernel
theorem dX9_soonest_132 : decode cX9_soonest 132 = .ok (.iload 8, 2) := by decide +kernel
theorem dX9_soonest_134 : decode cX9_soonest 134 = .ok (.invokevirtual 173, 3) := by decide +kernel
theorem dX9_soonest_137 : decode cX9_soonest 137 = .ok (.aload_n 0, 1) := by decide +kernel
theorem dX9_soonest_138 : decode cX9_soonest 138 = .ok (.getfield 53, 3) := by decide +kernel
theorem dX9_soonest_141 : decode cX9_soonest 141 = .ok (.bipush 6, 2) := by decide +kernel
theorem dX9_soonest_143 : decode cX9_soonest 143 = .ok (.iload 4, 2) := by decide +kernel
theorem dX9_soonest_145 : decode cX9_soonest 145 = .ok (.imul, 1) := by decide +kernel
theorem dX9_soonest_146 : decode cX9_soonest 146 = .ok (.iload 5, 2) := by decide +kernel
theorem dX9_soonest_148 : decode cX9_soonest 148 = .ok (.iadd, 1) := by decide +kernel
theorem dX9_soonest_149 : decode cX9_soonest 149 = .ok (.iaload, 1) := by decide +kernel
theorem dX9_soonest_150 : decode cX9_soonest 150 = .ok (.if_icmp .ne 8, 3) := by decide +kernel
theorem dX9_soonest_153 : decode cX9_soonest 153 = .ok (.iload 8, 2) := by decide +kernel
theorem dX9_soonest_155 : decode cX9_soonest 155 = .ok (.goto 5, 3) := by decide +kernel
theorem dX9_soonest_158 : decode cX9_soonest 158 = .ok (.iload 7, 2) := by decide +kernel
theorem dX9_soonest_160 : decode cX9_soonest 160 = .ok (.istore 7, 2) := by decide +kernel
theorem dX9_soonest_162 : decode cX9_soonest 162 = .ok (.iinc 8 (-1), 3) := by decide +kernel
theorem dX9_soonest_165 : decode cX9_soonest 165 = .ok (.goto (-44), 3) := by decide +kernel
theorem dX9_soonest_168 : decode cX9_soonest 168 = .ok (.iload 6, 2) := by decide +kernel
theorem dX9_soonest_170 : decode cX9_soonest 170 = .ok (.iload_n 2, 1) := by decide +kernel
theorem dX9_soonest_171 : decode cX9_soonest 171 = .ok (.if_icmp .ne 6, 3) := by decide +kernel
theorem dX9_soonest_174 : decode cX9_soonest 174 = .ok (.iload 7, 2) := by decide +kernel
theorem dX9_soonest_176 : decode cX9_soonest 176 = .ok (.ireturn, 1) := by decide +kernel
theorem dX9_soonest_177 : decode cX9_soonest 177 = .ok (.iload 4, 2) := by decide +kernel
theorem dX9_soonest_179 : decode cX9_soonest 179 = .ok (.aload_n 0, 1) := by decide +kernel
theorem dX9_soonest_180 : decode cX9_soonest 180 = .ok (.iload_n 1, 1) := by decide +kernel
theorem dX9_soonest_181 : decode cX9_soonest 181 = .ok (.iload 7, 2) := by decide +kernel
theorem dX9_soonest_183 : decode cX9_soonest 183 = .ok (.iload 5, 2) := by decide +kernel
theorem dX9_soonest_185 : decode cX9_soonest 185 = .ok (.invokevirtual 168, 3) := by decide +kernel
theorem dX9_soonest_188 : decode cX9_soonest 188 = .ok (.isub, 1) := by decide +kernel
theorem dX9_soonest_189 : decode cX9_soonest 189 = .ok (.istore 4, 2) := by decide +kernel
theorem dX9_soonest_191 : decode cX9_soonest 191 = .ok (.iload 7, 2) := by decide +kernel
theorem dX9_soonest_193 : decode cX9_soonest 193 = .ok (.iconst 1, 1) := by decide +kernel
theorem dX9_soonest_194 : decode cX9_soonest 194 = .ok (.iadd, 1) := by decide +kernel
theorem dX9_soonest_195 : decode cX9_soonest 195 = .ok (.istore 5, 2) := by decide +kernel
theorem dX9_soonest_197 : decode cX9_soonest 197 = .ok (.iinc 6 1, 3) := by decide +kernel
theorem dX9_soonest_200 : decode cX9_soonest 200 = .ok (.goto (-98), 3) := by decide +kernel
theorem dX9_soonest_203 : decode cX9_soonest 203 = .ok (.bipush (-5), 2) := by decide +kernel
theorem dX9_soonest_205 : decode cX9_soonest 205 = .ok (.ireturn, 1) := by decide +kernel
theorem dX9_loved_0 : decode cX9_loved 0 = .ok (.aload_n 0, 1) := by decide +kernel
theorem dX9_loved_1 : decode cX9_loved 1 = .ok (.iconst 0, 1) := by decide +kernel
theorem dX9_loved_2 : decode cX9_loved 2 = .ok (.putfield 74, 3) := by decide +kernel
theorem dX9_loved_5 : decode cX9_loved 5 = .ok (.iconst 0, 1) := by decide +kernel
theorem dX9_loved_6 : decode cX9_loved 6 = .ok (.istore_n 1, 1) := by decide +kernel
theorem dX9_loved_7 : decode cX9_loved 7 = .ok (.iconst 0, 1) := by decide +kernel
theorem dX9_loved_8 : decode cX9_loved 8 = .ok (.istore_n 2, 1) := by decide +kernel
theorem dX9_loved_9 : decode cX9_loved 9 = .ok (.iload_n 2, 1) := by decide +kernel
theorem dX9_loved_10 : decode cX9_loved 10 = .ok (.aload_n 0, 1) := by decide +kernel
theorem dX9_loved_11 : decode cX9_loved 11 = .ok (.getfield 13, 3) := by decide +kernel
theorem dX9_loved_14 : decode cX9_loved 14 = .ok (.iconst 0, 1) := by decide +kernel
theorem dX9_loved_15 : decode cX9_loved 15 = .ok (.iaload, 1) := by decide +kernel
theorem dX9_loved_16 : decode cX9_loved 16 = .ok (.if_icmp .ge 37, 3) := by decide +kernel
theorem dX9_loved_19 : decode cX9_loved 19 = .ok (.iload_n 1, 1) := by decide +kernel
theorem dX9_loved_20 : decode cX9_loved 20 = .ok (.aload_n 0, 1) := by decide +kernel
theorem dX9_loved_21 : decode cX9_loved 21 = .ok (.iload_n 2, 1) := by decide +kernel
theorem dX9_loved_22 : decode cX9_loved 22 = .ok (.invokevirtual 146, 3) := by decide +kernel
theorem dX9_loved_25 : decode cX9_loved 25 = .ok (.ifCond .ne 19, 3) := by decide +kernel
theorem dX9_loved_28 : decode cX9_loved 28 = .ok (.aload_n 0, 1) := by decide +kernel
theorem dX9_loved_29 : decode cX9_loved 29 = .ok (.iload_n 2, 1) := by decide +kernel
theorem dX9_loved_30 : decode cX9_loved 30 = .ok (.invokevirtual 180, 3) := by decide +kernel
theorem dX9_loved_33 : decode cX9_loved 33 = .ok (.ldc 172, 2) := by decide +kernel
theorem dX9_loved_35 : decode cX9_loved 35 = .ok (.if_icmp .ne 9, 3) := by decide +kernel
theorem dX9_loved_38 : decode cX9_loved 38 = .ok (.iconst 1, 1) := by decide +kernel
theorem dX9_loved_39 : decode cX9_loved 39 = .ok (.iload_n 2, 1) := by decide +kernel
theorem dX9_loved_40 : decode cX9_loved 40 = .ok (.ishl, 1) := by decide +kernel
theorem dX9_loved_41 : decode cX9_loved 41 = .ok (.goto 4, 3) := by decide +kernel
theorem dX9_loved_44 : decode cX9_loved 44 = .ok (.iconst 0, 1) := by decide +kernel
theorem dX9_loved_45 : decode cX9_loved 45 = .ok (.ior, 1) := by decide +kernel
theorem dX9_loved_46 : decode cX9_loved 46 = .ok (.istore_n 1, 1) := by decide +kernel
theorem dX9_loved_47 : decode cX9_loved 47 = .ok (.iinc 2 1, 3) := by decide +kernel
theorem dX9_loved_50 : decode cX9_loved 50 = .ok (.goto (-41), 3) := by decide +kernel
theorem dX9_loved_53 : decode cX9_loved 53 = .ok (.iload_n 1, 1) := by decide +kernel
theorem dX9_loved_54 : decode cX9_loved 54 = .ok (.ireturn, 1) := by decide +kernel
theorem dX9_gathers_0 : decode cX9_gathers 0 = .ok (.iconst 0, 1) := by decide +kernel
theorem dX9_gathers_1 : decode cX9_gathers 1 = .ok (.istore_n 1, 1) := by decide +kernel
theorem dX9_gathers_2 : decode cX9_gathers 2 = .ok (.iload_n 1, 1) := by decide +kernel
theorem dX9_gathers_3 : decode cX9_gathers 3 = .ok (.aload_n 0, 1) := by decide +kernel
theorem dX9_gathers_4 : decode cX9_gathers 4 = .ok (.getfield 13, 3) := by decide +kernel
theorem dX9_gathers_7 : decode cX9_gathers 7 = .ok (.iconst 0, 1) := by decide +kernel
theorem dX9_gathers_8 : decode cX9_gathers 8 = .ok (.iaload, 1) := by decide +kernel
theorem dX9_gathers_9 : decode cX9_gathers 9 = .ok (.if_icmp .ge 50, 3) := by decide +kernel
theorem dX9_gathers_12 : decode cX9_gathers 12 = .ok (.aload_n 0, 1) := by decide +kernel
theorem dX9_gathers_13 : decode cX9_gathers 13 = .ok (.iload_n 1, 1) := by decide +kernel
theorem dX9_gathers_14 : decode cX9_gathers 14 = .ok (.invokevirtual 146, 3) := by decide +kernel
theorem dX9_gathers_17 : decode cX9_gathers 17 = .ok (.ifCond .eq 8, 3) := by decide +kernel
theorem dX9_gathers_20 : decode cX9_gathers 20 = .ok (.ldc 172, 2) := by decide +kernel
theorem dX9_gathers_22 : decode cX9_gathers 22 = .ok (.goto 8, 3) := by decide +kernel
theorem dX9_gathers_25 : decode cX9_gathers 25 = .ok (.aload_n 0, 1) := by decide +kernel
theorem dX9_gathers_26 : decode cX9_gathers 26 = .ok (.iload_n 1, 1) := by decide +kernel
theorem dX9_gathers_27 : decode cX9_gathers 27 = .ok (.invokevirtual 180, 3) := by decide +kernel
theorem dX9_gathers_30 : decode cX9_gathers 30 = .ok (.istore_n 2, 1) := by decide +kernel
theorem dX9_gathers_31 : decode cX9_gathers 31 = .ok (.aload_n 0, 1) := by decide +kernel
theorem dX9_gathers_32 : decode cX9_gathers 32 = .ok (.getfield 56, 3) := by decide +kernel
theorem dX9_gathers_35 : decode cX9_gathers 35 = .ok (.iload_n 1, 1) := by decide +kernel
theorem dX9_gathers_36 : decode cX9_gathers 36 = .ok (.iload_n 2, 1) := by decide +kernel
theorem dX9_gathers_37 : decode cX9_gathers 37 = .ok (.ldc 172, 2) := by decide +kernel
theorem dX9_gathers_39 : decode cX9_gathers 39 = .ok (.if_icmp .ne 8, 3) := by decide +kernel
theorem dX9_gathers_42 : decode cX9_gathers 42 = .ok (.ldc 172, 2) := by decide +kernel
theorem dX9_gathers_44 : decode cX9_gathers 44 = .ok (.goto 8, 3) := by decide +kernel
theorem dX9_gathers_47 : decode cX9_gathers 47 = .ok (.iload_n 2, 1) := by decide +kernel
theorem dX9_gathers_48 : decode cX9_gathers 48 = .ok (.sipush 1000, 3) := by decide +kernel
theorem dX9_gathers_51 : decode cX9_gathers 51 = .ok (.idiv, 1) := by decide +kernel
theorem dX9_gathers_52 : decode cX9_gathers 52 = .ok (.iastore, 1) := by decide +kernel
theorem dX9_gathers_53 : decode cX9_gathers 53 = .ok (.iinc 1 1, 3) := by decide +kernel
theorem dX9_gathers_56 : decode cX9_gathers 56 = .ok (.goto (-54), 3) := by decide +kernel
theorem dX9_gathers_59 : decode cX9_gathers 59 = .ok (.return_, 1) := by decide +kernel
theorem dX9_rowOf_0 : decode cX9_rowOf 0 = .ok (.sipush 1296, 3) := by decide +kernel
theorem dX9_rowOf_3 : decode cX9_rowOf 3 = .ok (.istore_n 2, 1) := by decide +kernel
theorem dX9_rowOf_4 : decode cX9_rowOf 4 = .ok (.iconst 0, 1) := by decide +kernel
theorem dX9_rowOf_5 : decode cX9_rowOf 5 = .ok (.istore_n 3, 1) := by decide +kernel
theorem dX9_rowOf_6 : decode cX9_rowOf 6 = .ok (.iconst 0, 1) := by decide +kernel
theorem dX9_rowOf_7 : decode cX9_rowOf 7 = .ok (.istore 4, 2) := by decide +kernel
theorem dX9_rowOf_9 : decode cX9_rowOf 9 = .ok (.iconst 0, 1) := by decide +kernel
theorem dX9_rowOf_10 : decode cX9_rowOf 10 = .ok (.istore 5, 2) := by decide +kernel
theorem dX9_rowOf_12 : decode cX9_rowOf 12 = .ok (.iload 5, 2) := by decide +kernel
theorem dX9_rowOf_14 : decode cX9_rowOf 14 = .ok (.iconst 5, 1) := by decide +kernel
theorem dX9_rowOf_15 : decode cX9_rowOf 15 = .ok (.if_icmp .ge 94, 3) := by decide +kernel
theorem dX9_rowOf_18 : decode cX9_rowOf 18 = .ok (.iload_n 1, 1) := by decide +kernel
theorem dX9_rowOf_19 : decode cX9_rowOf 19 = .ok (.iload_n 2, 1) := by decide +kernel
theorem dX9_rowOf_20 : decode cX9_rowOf 20 = .ok (.idiv, 1) := by decide +kernel
theorem dX9_rowOf_21 : decode cX9_rowOf 21 = .ok (.bipush 6, 2) := by decide +kernel
theorem dX9_rowOf_23 : decode cX9_rowOf 23 = .ok (.irem, 1) := by decide +kernel
theorem dX9_rowOf_24 : decode cX9_rowOf 24 = .ok (.istore 6, 2) := by decide +kernel
theorem dX9_rowOf_26 : decode cX9_rowOf 26 = .ok (.iload_n 2, 1) := by decide +kernel
theorem dX9_rowOf_27 : decode cX9_rowOf 27 = .ok (.bipush 6, 2) := by decide +kernel
theorem dX9_rowOf_29 : decode cX9_rowOf 29 = .ok (.idiv, 1) := by decide +kernel
theorem dX9_rowOf_30 : decode cX9_rowOf 30 = .ok (.istore_n 2, 1) := by decide +kernel
theorem dX9_rowOf_31 : decode cX9_rowOf 31 = .ok (.iload 6, 2) := by decide +kernel
theorem dX9_rowOf_33 : decode cX9_rowOf 33 = .ok (.ifCond .le 70, 3) := by decide +kernel
theorem dX9_rowOf_36 : decode cX9_rowOf 36 = .ok (.iload_n 3, 1) := by decide +kernel
theorem dX9_rowOf_37 : decode cX9_rowOf 37 = .ok (.iload 5, 2) := by decide +kernel
theorem dX9_rowOf_39 : decode cX9_rowOf 39 = .ok (.if_icmp .lt 39, 3) := by decide +kernel
theorem dX9_rowOf_42 : decode cX9_rowOf 42 = .ok (.iload 6, 2) := by decide +kernel
theorem dX9_rowOf_44 : decode cX9_rowOf 44 = .ok (.aload_n 0, 1) := by decide +kernel
theorem dX9_rowOf_45 : decode cX9_rowOf 45 = .ok (.getfield 13, 3) := by decide +kernel
theorem dX9_rowOf_48 : decode cX9_rowOf 48 = .ok (.iconst 0, 1) := by decide +kernel
theorem dX9_rowOf_49 : decode cX9_rowOf 49 = .ok (.iaload, 1) := by decide +kernel
theorem dX9_rowOf_50 : decode cX9_rowOf 50 = .ok (.if_icmp .gt 28, 3) := by decide +kernel
theorem dX9_rowOf_53 : decode cX9_rowOf 53 = .ok (.iload 4, 2) := by decide +kernel
theorem dX9_rowOf_55 : decode cX9_rowOf 55 = .ok (.iload 6, 2) := by decide +kernel
theorem dX9_rowOf_57 : decode cX9_rowOf 57 = .ok (.ishr, 1) := by decide +kernel
theorem dX9_rowOf_58 : decode cX9_rowOf 58 = .ok (.iconst 1, 1) := by decide +kernel
theorem dX9_rowOf_59 : decode cX9_rowOf 59 = .ok (.iand, 1) := by decide +kernel
theorem dX9_rowOf_60 : decode cX9_rowOf 60 = .ok (.iconst 1, 1) := by decide +kernel
theorem dX9_rowOf_61 : decode cX9_rowOf 61 = .ok (.if_icmp .eq 17, 3) := by decide +kernel
theorem dX9_rowOf_64 : decode cX9_rowOf 64 = .ok (.aload_n 0, 1) := by decide +kernel
theorem dX9_rowOf_65 : decode cX9_rowOf 65 = .ok (.getfield 56, 3) := by decide +kernel
theorem dX9_rowOf_68 : decode cX9_rowOf 68 = .ok (.iload 6, 2) := by decide +kernel
theorem dX9_rowOf_70 : decode cX9_rowOf 70 = .ok (.iconst 1, 1) := by decide +kernel
theorem dX9_rowOf_71 : decode cX9_rowOf 71 = .ok (.isub, 1) := by decide +kernel
theorem dX9_rowOf_72 : decode cX9_rowOf 72 = .ok (.iaload, 1) := by decide +kernel
theorem dX9_rowOf_73 : decode cX9_rowOf 73 = .ok (.ldc 172, 2) := by decide +kernel
theorem dX9_rowOf_75 : decode cX9_rowOf 75 = .ok (.if_icmp .ne 6, 3) := by decide +kernel
theorem dX9_rowOf_78 : decode cX9_rowOf 78 = .ok (.bipush (-9), 2) := by decide +kernel
theorem dX9_rowOf_80 : decode cX9_rowOf 80 = .ok (.ireturn, 1) := by decide +kernel
theorem dX9_rowOf_81 : decode cX9_rowOf 81 = .ok (.iload 4, 2) := by decide +kernel
theorem dX9_rowOf_83 : decode cX9_rowOf 83 = .ok (.iconst 1, 1) := by decide +kernel
theorem dX9_rowOf_84 : decode cX9_rowOf 84 = .ok (.iload 6, 2) := by decide +kernel
theorem dX9_rowOf_86 : decode cX9_rowOf 86 = .ok (.ishl, 1) := by decide +kernel
theorem dX9_rowOf_87 : decode cX9_rowOf 87 = .ok (.ior, 1) := by decide +kernel
theorem dX9_rowOf_88 : decode cX9_rowOf 88 = .ok (.istore 4, 2) := by decide +kernel
theorem dX9_rowOf_90 : decode cX9_rowOf 90 = .ok (.aload_n 0, 1) := by decide +kernel
theorem dX9_rowOf_91 : decode cX9_rowOf 91 = .ok (.getfield 59, 3) := by decide +kernel
theorem dX9_rowOf_94 : decode cX9_rowOf 94 = .ok (.iload_n 3, 1) := by decide +kernel
theorem dX9_rowOf_95 : decode cX9_rowOf 95 = .ok (.iload 6, 2) := by decide +kernel
theorem dX9_rowOf_97 : decode cX9_rowOf 97 = .ok (.iconst 1, 1) := by decide +kernel
theorem dX9_rowOf_98 : decode cX9_rowOf 98 = .ok (.isub, 1) := by decide +kernel
theorem dX9_rowOf_99 : decode cX9_rowOf 99 = .ok (.iastore, 1) := by decide +kernel
theorem dX9_rowOf_100 : decode cX9_rowOf 100 = .ok (.iinc 3 1, 3) := by decide +kernel
theorem dX9_rowOf_103 : decode cX9_rowOf 103 = .ok (.iinc 5 1, 3) := by decide +kernel
theorem dX9_rowOf_106 : decode cX9_rowOf 106 = .ok (.goto (-94), 3) := by decide +kernel
theorem dX9_rowOf_109 : decode cX9_rowOf 109 = .ok (.iload_n 3, 1) := by decide +kernel
theorem dX9_rowOf_110 : decode cX9_rowOf 110 = .ok (.ireturn, 1) := by decide +kernel
theorem dX9_round_0 : decode cX9_round 0 = .ok (.aload_n 0, 1) := by decide +kernel
theorem dX9_round_1 : decode cX9_round 1 = .ok (.iconst 0, 1) := by decide +kernel
theorem dX9_round_2 : decode cX9_round 2 = .ok (.putfield 74, 3) := by decide +kernel
theorem dX9_round_5 : decode cX9_round 5 = .ok (.iload_n 1, 1) := by decide +kernel
theorem dX9_round_6 : decode cX9_round 6 = .ok (.bipush (-2), 2) := by decide +kernel
theorem dX9_round_8 : decode cX9_round 8 = .ok (.if_icmp .ge 5, 3) := by decide +kernel
theorem dX9_round_11 : decode cX9_round 11 = .ok (.iconst (-1), 1) := by decide +kernel
theorem dX9_round_12 : decode cX9_round 12 = .ok (.ireturn, 1) := by decide +kernel
theorem dX9_round_13 : decode cX9_round 13 = .ok (.aload_n 0, 1) := by decide +kernel
theorem dX9_round_14 : decode cX9_round 14 = .ok (.invokevirtual 183, 3) := by decide +kernel
theorem dX9_round_17 : decode cX9_round 17 = .ok (.iconst (-1), 1) := by decide +kernel
theorem dX9_round_18 : decode cX9_round 18 = .ok (.istore_n 2, 1) := by decide +kernel
theorem dX9_round_19 : decode cX9_round 19 = .ok (.iconst 0, 1) := by decide +kernel
theorem dX9_round_20 : decode cX9_round 20 = .ok (.istore_n 3, 1) := by decide +kernel
theorem dX9_round_21 : decode cX9_round 21 = .ok (.iconst 0, 1) := by decide +kernel
theorem dX9_round_22 : decode cX9_round 22 = .ok (.istore 4, 2) := by decide +kernel
theorem dX9_round_24 : decode cX9_round 24 = .ok (.iconst 0, 1) := by decide +kernel
theorem dX9_round_25 : decode cX9_round 25 = .ok (.istore 5, 2) := by decide +kernel
theorem dX9_round_27 : decode cX9_round 27 = .ok (.iload 5, 2) := by decide +kernel
theorem dX9_round_29 : decode cX9_round 29 = .ok (.sipush 7776, 3) := by decide +kernel
theorem dX9_round_32 : decode cX9_round 32 = .ok (.if_icmp .ge 204, 3) := by decide +kernel
theorem dX9_round_35 : decode cX9_round 35 = .ok (.aload_n 0, 1) := by decide +kernel
theorem dX9_round_36 : decode cX9_round 36 = .ok (.iload 5, 2) := by decide +kernel
theorem dX9_round_38 : decode cX9_round 38 = .ok (.invokevirtual 186, 3) := by decide +kernel
theorem dX9_round_41 : decode cX9_round 41 = .ok (.istore 6, 2) := by decide +kernel
theorem dX9_round_43 : decode cX9_round 43 = .ok (.aload_n 0, 1) := by decide +kernel
theorem dX9_round_44 : decode cX9_round 44 = .ok (.getfield 34, 3) := by decide +kernel
theorem dX9_round_47 : decode cX9_round 47 = .ok (.iconst 1, 1) := by decide +kernel
theorem dX9_round_48 : decode cX9_round 48 = .ok (.iaload, 1) := by decide +kernel
theorem dX9_round_49 : decode cX9_round 49 = .ok (.istore 7, 2) := by decide +kernel
theorem dX9_round_51 : decode cX9_round 51 = .ok (.iconst 0, 1) := by decide +kernel
theorem dX9_round_52 : decode cX9_round 52 = .ok (.istore 8, 2) := by decide +kernel
theorem dX9_round_54 : decode cX9_round 54 = .ok (.iconst 0, 1) := by decide +kernel
theorem dX9_round_55 : decode cX9_round 55 = .ok (.istore 9, 2) := by decide +kernel
theorem dX9_round_57 : decode cX9_round 57 = .ok (.iconst 0, 1) := by decide +kernel
theorem dX9_round_58 : decode cX9_round 58 = .ok (.istore 10, 2) := by decide +kernel
theorem dX9_round_60 : decode cX9_round 60 = .ok (.iload 10, 2) := by decide +kernel
theorem dX9_round_62 : decode cX9_round 62 = .ok (.iload 6, 2) := by decide +kernel
theorem dX9_round_64 : decode cX9_round 64 = .ok (.if_icmp .ge 68, 3) := by decide +kernel
theorem dX9_round_67 : decode cX9_round 67 = .ok (.iload 8, 2) := by decide +kernel
theorem dX9_round_69 : decode cX9_round 69 = .ok (.aload_n 0, 1) := by decide +kernel
theorem dX9_round_70 : decode cX9_round 70 = .ok (.iload 7, 2) := by decide +kernel
theorem dX9_round_72 : decode cX9_round 72 = .ok (.aload_n 0, 1) := by decide +kernel
theorem dX9_round_73 : decode cX9_round 73 = .ok (.getfield 59, 3) := by decide +kernel
theorem dX9_round_76 : decode cX9_round 76 = .ok (.iload 10, 2) := by decide +kernel
theorem dX9_round_78 : decode cX9_round 78 = .ok (.iaload, 1) := by decide +kernel
theorem dX9_round_79 : decode cX9_round 79 = .ok (.invokevirtual 159, 3) := by decide +kernel
theorem dX9_round_82 : decode cX9_round 82 = .ok (.aload_n 0, 1) := by decide +kernel
theorem dX9_round_83 : decode cX9_round 83 = .ok (.getfield 56, 3) := by decide +kernel
theorem dX9_round_86 : decode cX9_round 86 = .ok (.aload_n 0, 1) := by decide +kernel
theorem dX9_round_87 : decode cX9_round 87 = .ok (.getfield 59, 3) := by decide +kernel
theorem dX9_round_90 : decode cX9_round 90 = .ok (.iload 10, 2) := by decide +kernel
theorem dX9_round_92 : decode cX9_round 92 = .ok (.iaload, 1) := by decide +kernel
theorem dX9_round_93 : decode cX9_round 93 = .ok (.iaload, 1) := by decide +kernel
theorem dX9_round_94 : decode cX9_round 94 = .ok (.iadd, 1) := by decide +kernel
theorem dX9_round_95 : decode cX9_round 95 = .ok (.iadd, 1) := by decide +kernel
theorem dX9_round_96 : decode cX9_round 96 = .ok (.istore 8, 2) := by decide +kernel
theorem dX9_round_98 : decode cX9_round 98 = .ok (.iload 9, 2) := by decide +kernel
theorem dX9_round_100 : decode cX9_round 100 = .ok (.aload_n 0, 1) := by decide +kernel
theorem dX9_round_101 : decode cX9_round 101 = .ok (.getfield 22, 3) := by decide +kernel
theorem dX9_round_104 : decode cX9_round 104 = .ok (.aload_n 0, 1) := by decide +kernel
theorem dX9_round_105 : decode cX9_round 105 = .ok (.getfield 59, 3) := by decide +kernel
theorem dX9_round_108 : decode cX9_round 108 = .ok (.iload 10, 2) := by decide +kernel
theorem dX9_round_110 : decode cX9_round 110 = .ok (.iaload, 1) := by decide +kernel
theorem dX9_round_111 : decode cX9_round 111 = .ok (.iaload, 1) := by decide +kernel
theorem dX9_round_112 : decode cX9_round 112 = .ok (.iadd, 1) := by decide +kernel
theorem dX9_round_113 : decode cX9_round 113 = .ok (.istore 9, 2) := by decide +kernel
theorem dX9_round_115 : decode cX9_round 115 = .ok (.aload_n 0, 1) := by decide +kernel
theorem dX9_round_116 : decode cX9_round 116 = .ok (.getfield 59, 3) := by decide +kernel
theorem dX9_round_119 : decode cX9_round 119 = .ok (.iload 10, 2) := by decide +kernel
theorem dX9_round_121 : decode cX9_round 121 = .ok (.iaload, 1) := by decide +kernel
theorem dX9_round_122 : decode cX9_round 122 = .ok (.iconst 1, 1) := by decide +kernel
theorem dX9_round_123 : decode cX9_round 123 = .ok (.iadd, 1) := by decide +kernel
theorem dX9_round_124 : decode cX9_round 124 = .ok (.istore 7, 2) := by decide +kernel
theorem dX9_round_126 : decode cX9_round 126 = .ok (.iinc 10 1, 3) := by decide +kernel
theorem dX9_round_129 : decode cX9_round 129 = .ok (.goto (-69), 3) := by decide +kernel
theorem dX9_round_132 : decode cX9_round 132 = .ok (.iload 6, 2) := by decide +kernel
theorem dX9_round_134 : decode cX9_round 134 = .ok (.ifCond .eq 26, 3) := by decide +kernel
theorem dX9_round_137 : decode cX9_round 137 = .ok (.iload 6, 2) := by decide +kernel
theorem dX9_round_139 : decode cX9_round 139 = .ok (.ifCond .le 25, 3) := by decide +kernel
theorem dX9_round_142 : decode cX9_round 142 = .ok (.aload_n 0, 1) := by decide +kernel
theorem dX9_round_143 : decode cX9_round 143 = .ok (.getfield 34, 3) := by decide +kernel
theorem dX9_round_146 : decode cX9_round 146 = .ok (.iconst 2, 1) := by decide +kernel
theorem dX9_round_147 : decode cX9_round 147 = .ok (.iaload, 1) := by decide +kernel
theorem dX9_round_148 : decode cX9_round 148 = .ok (.iload 8, 2) := by decide +kernel
theorem dX9_round_150 : decode cX9_round 150 = .ok (.iadd, 1) := by decide +kernel
theorem dX9_round_151 : decode cX9_round 151 = .ok (.aload_n 0, 1) := by decide +kernel
theorem dX9_round_152 : decode cX9_round 152 = .ok (.getfield 13, 3) := by decide +kernel
theorem dX9_round_155 : decode cX9_round 155 = .ok (.iconst 5, 1) := by decide +kernel
theorem dX9_round_156 : decode cX9_round 156 = .ok (.iaload, 1) := by decide +kernel
theorem dX9_round_157 : decode cX9_round 157 = .ok (.if_icmp .gt 7, 3) := by decide +kernel
theorem dX9_round_160 : decode cX9_round 160 = .ok (.iconst 1, 1) := by decide +kernel
theorem dX9_round_161 : decode cX9_round 161 = .ok (.goto 4, 3) := by decide +kernel
theorem dX9_round_164 : decode cX9_round 164 = .ok (.iconst 0, 1) := by decide +kernel
theorem dX9_round_165 : decode cX9_round 165 = .ok (.istore 10, 2) := by decide +kernel
theorem dX9_round_167 : decode cX9_round 167 = .ok (.iload 10, 2) := by decide +kernel
theorem dX9_round_169 : decode cX9_round 169 = .ok (.ifCond .eq 61, 3) := by decide +kernel
theorem dX9_round_172 : decode cX9_round 172 = .ok (.iload 9, 2) := by decide +kernel
theorem dX9_round_174 : decode cX9_round 174 = .ok (.iload_n 2, 1) := by decide +kernel
theorem dX9_round_175 : decode cX9_round 175 = .ok (.if_icmp .gt 15, 3) := by decide +kernel
theorem dX9_round_178 : decode cX9_round 178 = .ok (.iload 9, 2) := by decide +kernel
theorem dX9_round_180 : decode cX9_round 180 = .ok (.iload_n 2, 1) := by decide +kernel
theorem dX9_round_181 : decode cX9_round 181 = .ok (.if_icmp .ne 49, 3) := by decide +kernel
theorem dX9_round_184 : decode cX9_round 184 = .ok (.iload 8, 2) := by decide +kernel
theorem dX9_round_186 : decode cX9_round 186 = .ok (.iload_n 3, 1) := by decide +kernel
theorem dX9_round_187 : decode cX9_round 187 = .ok (.if_icmp .ge 43, 3) := by decide +kernel
theorem dX9_round_190 : decode cX9_round 190 = .ok (.iload 9, 2) := by decide +kernel
theorem dX9_round_192 : decode cX9_round 192 = .ok (.istore_n 2, 1) := by decide +kernel
theorem dX9_round_193 : decode cX9_round 193 = .ok (.iload 8, 2) := by decide +kernel
theorem dX9_round_195 : decode cX9_round 195 = .ok (.istore_n 3, 1) := by decide +kernel
theorem dX9_round_196 : decode cX9_round 196 = .ok (.iload 6, 2) := by decide +kernel
theorem dX9_round_198 : decode cX9_round 198 = .ok (.istore 4, 2) := by decide +kernel
theorem dX9_round_200 : decode cX9_round 200 = .ok (.iconst 0, 1) := by decide +kernel
theorem dX9_round_201 : decode cX9_round 201 = .ok (.istore 11, 2) := by decide +kernel
theorem dX9_round_203 : decode cX9_round 203 = .ok (.iload 11, 2) := by decide +kernel
theorem dX9_round_205 : decode cX9_round 205 = .ok (.iload 6, 2) := by decide +kernel
theorem dX9_round_207 : decode cX9_round 207 = .ok (.if_icmp .ge 23, 3) := by decide +kernel
theorem dX9_round_210 : decode cX9_round 210 = .ok (.aload_n 0, 1) := by decide +kernel
theorem dX9_round_211 : decode cX9_round 211 = .ok (.getfield 62, 3) := by decide +kernel
theorem dX9_round_214 : decode cX9_round 214 = .ok (.iload 11, 2) := by decide +kernel
theorem dX9_round_216 : decode cX9_round 216 = .ok (.aload_n 0, 1) := by decide +kernel
theorem dX9_round_217 : decode cX9_round 217 = .ok (.getfield 59, 3) := by decide +kernel
theorem dX9_round_220 : decode cX9_round 220 = .ok (.iload 11, 2) := by decide +kernel
theorem dX9_round_222 : decode cX9_round 222 = .ok (.iaload, 1) := by decide +kernel
theorem dX9_round_223 : decode cX9_round 223 = .ok (.iastore, 1) := by decide +kernel
theorem dX9_round_224 : decode cX9_round 224 = .ok (.iinc 11 1, 3) := by decide +kernel
theorem dX9_round_227 : decode cX9_round 227 = .ok (.goto (-24), 3) := by decide +kernel
theorem dX9_round_230 : decode cX9_round 230 = .ok (.iinc 5 1, 3) := by decide +kernel
theorem dX9_round_233 : decode cX9_round 233 = .ok (.goto (-206), 3) := by decide +kernel
theorem dX9_round_236 : decode cX9_round 236 = .ok (.iload_n 1, 1) := by decide +kernel
theorem dX9_round_237 : decode cX9_round 237 = .ok (.iconst (-1), 1) := by decide +kernel
theorem dX9_round_238 : decode cX9_round 238 = .ok (.if_icmp .ne 7, 3) := by decide +kernel
theorem dX9_round_241 : decode cX9_round 241 = .ok (.iload_n 2, 1) := by decide +kernel
theorem dX9_round_242 : decode cX9_round 242 = .ok (.goto 30, 3) := by decide +kernel
theorem dX9_round_245 : decode cX9_round 245 = .ok (.iload_n 1, 1) := by decide +kernel
theorem dX9_round_246 : decode cX9_round 246 = .ok (.bipush (-2), 2) := by decide +kernel
theorem dX9_round_248 : decode cX9_round 248 = .ok (.if_icmp .ne 7, 3) := by decide +kernel
theorem dX9_round_251 : decode cX9_round 251 = .ok (.iload_n 3, 1) := by decide +kernel
theorem dX9_round_252 : decode cX9_round 252 = .ok (.goto 20, 3) := by decide +kernel
theorem dX9_round_255 : decode cX9_round 255 = .ok (.iload_n 1, 1) := by decide +kernel
theorem dX9_round_256 : decode cX9_round 256 = .ok (.iload 4, 2) := by decide +kernel
theorem dX9_round_258 : decode cX9_round 258 = .ok (.if_icmp .ge 12, 3) := by decide +kernel
theorem dX9_round_261 : decode cX9_round 261 = .ok (.aload_n 0, 1) := by decide +kernel
theorem dX9_round_262 : decode cX9_round 262 = .ok (.getfield 62, 3) := by decide +kernel
theorem dX9_round_265 : decode cX9_round 265 = .ok (.iload_n 1, 1) := by decide +kernel
theorem dX9_round_266 : decode cX9_round 266 = .ok (.iaload, 1) := by decide +kernel
theorem dX9_round_267 : decode cX9_round 267 = .ok (.goto 5, 3) := by decide +kernel
theorem dX9_round_270 : decode cX9_round 270 = .ok (.bipush (-5), 2) := by decide +kernel
theorem dX9_round_272 : decode cX9_round 272 = .ok (.ireturn, 1) := by decide +kernel
theorem dX9_country_0 : decode cX9_country 0 = .ok (.aload_n 0, 1) := by decide +kernel
theorem dX9_country_1 : decode cX9_country 1 = .ok (.iconst 0, 1) := by decide +kernel
theorem dX9_country_2 : decode cX9_country 2 = .ok (.putfield 74, 3) := by decide +kernel
theorem dX9_country_5 : decode cX9_country 5 = .ok (.aload_n 0, 1) := by decide +kernel
theorem dX9_country_6 : decode cX9_country 6 = .ok (.invokevirtual 183, 3) := by decide +kernel
theorem dX9_country_9 : decode cX9_country 9 = .ok (.aload_n 0, 1) := by decide +kernel
theorem dX9_country_10 : decode cX9_country 10 = .ok (.getfield 13, 3) := by decide +kernel
theorem dX9_country_13 : decode cX9_country 13 = .ok (.iconst 0, 1) := by decide +kernel
theorem dX9_country_14 : decode cX9_country 14 = .ok (.iaload, 1) := by decide +kernel
theorem dX9_country_15 : decode cX9_country 15 = .ok (.iconst 2, 1) := by decide +kernel
theorem dX9_country_16 : decode cX9_country 16 = .ok (.idiv, 1) := by decide +kernel
theorem dX9_country_17 : decode cX9_country 17 = .ok (.iconst 1, 1) := by decide +kernel
theorem dX9_country_18 : decode cX9_country 18 = .ok (.iadd, 1) := by decide +kernel
theorem dX9_country_19 : decode cX9_country 19 = .ok (.aload_n 0, 1) := by decide +kernel
theorem dX9_country_20 : decode cX9_country 20 = .ok (.getfield 34, 3) := by decide +kernel
theorem dX9_country_23 : decode cX9_country 23 = .ok (.iconst 3, 1) := by decide +kernel
theorem dX9_country_24 : decode cX9_country 24 = .ok (.iaload, 1) := by decide +kernel
theorem dX9_country_25 : decode cX9_country 25 = .ok (.invokestatic 189, 3) := by decide +kernel
theorem dX9_country_28 : decode cX9_country 28 = .ok (.isub, 1) := by decide +kernel
theorem dX9_country_29 : decode cX9_country 29 = .ok (.istore_n 1, 1) := by decide +kernel
theorem dX9_country_30 : decode cX9_country 30 = .ok (.ldc 172, 2) := by decide +kernel
theorem dX9_country_32 : decode cX9_country 32 = .ok (.istore_n 2, 1) := by decide +kernel
theorem dX9_country_33 : decode cX9_country 33 = .ok (.iconst 0, 1) := by decide +kernel
theorem dX9_country_34 : decode cX9_country 34 = .ok (.istore_n 3, 1) := by decide +kernel
theorem dX9_country_35 : decode cX9_country 35 = .ok (.iload_n 3, 1) := by decide +kernel
theorem dX9_country_36 : decode cX9_country 36 = .ok (.iconst 1, 1) := by decide +kernel
theorem dX9_country_37 : decode cX9_country 37 = .ok (.aload_n 0, 1) := by decide +kernel
theorem dX9_country_38 : decode cX9_country 38 = .ok (.getfield 13, 3) := by decide +kernel
theorem dX9_country_41 : decode cX9_country 41 = .ok (.iconst 0, 1) := by decide +kernel
theorem dX9_country_42 : decode cX9_country 42 = .ok (.iaload, 1) := by decide +kernel
theorem dX9_country_43 : decode cX9_country 43 = .ok (.ishl, 1) := by decide +kernel
theorem dX9_country_44 : decode cX9_country 44 = .ok (.if_icmp .ge 79, 3) := by decide +kernel
theorem dX9_country_47 : decode cX9_country 47 = .ok (.iconst 0, 1) := by decide +kernel
theorem dX9_country_48 : decode cX9_country 48 = .ok (.istore 4, 2) := by decide +kernel
theorem dX9_country_50 : decode cX9_country 50 = .ok (.iconst 0, 1) := by decide +kernel
theorem dX9_country_51 : decode cX9_country 51 = .ok (.istore 5, 2) := by decide +kernel
theorem dX9_country_53 : decode cX9_country 53 = .ok (.iload 5, 2) := by decide +kernel
theorem dX9_country_55 : decode cX9_country 55 = .ok (.aload_n 0, 1) := by decide +kernel
theorem dX9_country_56 : decode cX9_country 56 = .ok (.getfield 13, 3) := by decide +kernel
theorem dX9_country_59 : decode cX9_country 59 = .ok (.iconst 0, 1) := by decide +kernel
theorem dX9_country_60 : decode cX9_country 60 = .ok (.iaload, 1) := by decide +kernel
theorem dX9_country_61 : decode cX9_country 61 = .ok (.if_icmp .ge 35, 3) := by decide +kernel
theorem dX9_country_64 : decode cX9_country 64 = .ok (.iload 4, 2) := by decide +kernel
theorem dX9_country_66 : decode cX9_country 66 = .ok (.iload_n 3, 1) := by decide +kernel
theorem dX9_country_67 : decode cX9_country 67 = .ok (.iload 5, 2) := by decide +kernel
theorem dX9_country_69 : decode cX9_country 69 = .ok (.ishr, 1) := by decide +kernel
theorem dX9_country_70 : decode cX9_country 70 = .ok (.iconst 1, 1) := by decide +kernel
theorem dX9_country_71 : decode cX9_country 71 = .ok (.iand, 1) := by decide +kernel
end
section
theorem dX9_country_72 : decode cX9_country 72 = .ok (.iconst 1, 1) := by decide +kernel
theorem dX9_country_73 : decode cX9_country 73 = .ok (.if_icmp .ne 13, 3) := by decide +kernel
theorem dX9_country_76 : decode cX9_country 76 = .ok (.aload_n 0, 1) := by decide +kernel
theorem dX9_country_77 : decode cX9_country 77 = .ok (.getfield 56, 3) := by decide +kernel
theorem dX9_country_80 : decode cX9_country 80 = .ok (.iload 5, 2) := by decide +kernel
theorem dX9_country_82 : decode cX9_country 82 = .ok (.iaload, 1) := by decide +kernel
theorem dX9_country_83 : decode cX9_country 83 = .ok (.goto 4, 3) := by decide +kernel
theorem dX9_country_86 : decode cX9_country 86 = .ok (.iconst 0, 1) := by decide +kernel
theorem dX9_country_87 : decode cX9_country 87 = .ok (.iadd, 1) := by decide +kernel
theorem dX9_country_88 : decode cX9_country 88 = .ok (.istore 4, 2) := by decide +kernel
theorem dX9_country_90 : decode cX9_country 90 = .ok (.iinc 5 1, 3) := by decide +kernel
theorem dX9_country_93 : decode cX9_country 93 = .ok (.goto (-40), 3) := by decide +kernel
theorem dX9_country_96 : decode cX9_country 96 = .ok (.iload_n 3, 1) := by decide +kernel
theorem dX9_country_97 : decode cX9_country 97 = .ok (.invokestatic 189, 3) := by decide +kernel
theorem dX9_country_100 : decode cX9_country 100 = .ok (.iload_n 1, 1) := by decide +kernel
theorem dX9_country_101 : decode cX9_country 101 = .ok (.if_icmp .lt 14, 3) := by decide +kernel
theorem dX9_country_104 : decode cX9_country 104 = .ok (.iload 4, 2) := by decide +kernel
theorem dX9_country_106 : decode cX9_country 106 = .ok (.iload_n 2, 1) := by decide +kernel
theorem dX9_country_107 : decode cX9_country 107 = .ok (.if_icmp .ge 8, 3) := by decide +kernel
theorem dX9_country_110 : decode cX9_country 110 = .ok (.iload 4, 2) := by decide +kernel
theorem dX9_country_112 : decode cX9_country 112 = .ok (.goto 4, 3) := by decide +kernel
theorem dX9_country_115 : decode cX9_country 115 = .ok (.iload_n 2, 1) := by decide +kernel
theorem dX9_country_116 : decode cX9_country 116 = .ok (.istore_n 2, 1) := by decide +kernel
theorem dX9_country_117 : decode cX9_country 117 = .ok (.iinc 3 1, 3) := by decide +kernel
theorem dX9_country_120 : decode cX9_country 120 = .ok (.goto (-85), 3) := by decide +kernel
theorem dX9_country_123 : decode cX9_country 123 = .ok (.iload_n 2, 1) := by decide +kernel
theorem dX9_country_124 : decode cX9_country 124 = .ok (.ldc 172, 2) := by decide +kernel
theorem dX9_country_126 : decode cX9_country 126 = .ok (.if_icmp .ne 8, 3) := by decide +kernel
theorem dX9_country_129 : decode cX9_country 129 = .ok (.bipush (-9), 2) := by decide +kernel
theorem dX9_country_131 : decode cX9_country 131 = .ok (.goto 4, 3) := by decide +kernel
theorem dX9_country_134 : decode cX9_country 134 = .ok (.iload_n 2, 1) := by decide +kernel
theorem dX9_country_135 : decode cX9_country 135 = .ok (.ireturn, 1) := by decide +kernel
theorem dX9_having_0 : decode cX9_having 0 = .ok (.iconst 0, 1) := by decide +kernel
theorem dX9_having_1 : decode cX9_having 1 = .ok (.istore_n 3, 1) := by decide +kernel
theorem dX9_having_2 : decode cX9_having 2 = .ok (.iconst 0, 1) := by decide +kernel
theorem dX9_having_3 : decode cX9_having 3 = .ok (.istore 4, 2) := by decide +kernel
theorem dX9_having_5 : decode cX9_having 5 = .ok (.iload 4, 2) := by decide +kernel
theorem dX9_having_7 : decode cX9_having 7 = .ok (.aload_n 0, 1) := by decide +kernel
theorem dX9_having_8 : decode cX9_having 8 = .ok (.getfield 13, 3) := by decide +kernel
theorem dX9_having_11 : decode cX9_having 11 = .ok (.iconst 2, 1) := by decide +kernel
theorem dX9_having_12 : decode cX9_having 12 = .ok (.iaload, 1) := by decide +kernel
theorem dX9_having_13 : decode cX9_having 13 = .ok (.if_icmp .ge 35, 3) := by decide +kernel
theorem dX9_having_16 : decode cX9_having 16 = .ok (.iload_n 3, 1) := by decide +kernel
theorem dX9_having_17 : decode cX9_having 17 = .ok (.aload_n 0, 1) := by decide +kernel
theorem dX9_having_18 : decode cX9_having 18 = .ok (.getfield 31, 3) := by decide +kernel
theorem dX9_having_21 : decode cX9_having 21 = .ok (.iload 4, 2) := by decide +kernel
theorem dX9_having_23 : decode cX9_having 23 = .ok (.iaload, 1) := by decide +kernel
theorem dX9_having_24 : decode cX9_having 24 = .ok (.iload_n 2, 1) := by decide +kernel
theorem dX9_having_25 : decode cX9_having 25 = .ok (.ishr, 1) := by decide +kernel
theorem dX9_having_26 : decode cX9_having 26 = .ok (.iconst 1, 1) := by decide +kernel
theorem dX9_having_27 : decode cX9_having 27 = .ok (.iand, 1) := by decide +kernel
theorem dX9_having_28 : decode cX9_having 28 = .ok (.iconst 1, 1) := by decide +kernel
theorem dX9_having_29 : decode cX9_having 29 = .ok (.if_icmp .ne 10, 3) := by decide +kernel
theorem dX9_having_32 : decode cX9_having 32 = .ok (.iconst 1, 1) := by decide +kernel
theorem dX9_having_33 : decode cX9_having 33 = .ok (.iload 4, 2) := by decide +kernel
theorem dX9_having_35 : decode cX9_having 35 = .ok (.ishl, 1) := by decide +kernel
theorem dX9_having_36 : decode cX9_having 36 = .ok (.goto 4, 3) := by decide +kernel
theorem dX9_having_39 : decode cX9_having 39 = .ok (.iconst 0, 1) := by decide +kernel
theorem dX9_having_40 : decode cX9_having 40 = .ok (.ior, 1) := by decide +kernel
theorem dX9_having_41 : decode cX9_having 41 = .ok (.istore_n 3, 1) := by decide +kernel
theorem dX9_having_42 : decode cX9_having 42 = .ok (.iinc 4 1, 3) := by decide +kernel
theorem dX9_having_45 : decode cX9_having 45 = .ok (.goto (-40), 3) := by decide +kernel
theorem dX9_having_48 : decode cX9_having 48 = .ok (.iload_n 1, 1) := by decide +kernel
theorem dX9_having_49 : decode cX9_having 49 = .ok (.iload_n 3, 1) := by decide +kernel
theorem dX9_having_50 : decode cX9_having 50 = .ok (.iand, 1) := by decide +kernel
theorem dX9_having_51 : decode cX9_having 51 = .ok (.ireturn, 1) := by decide +kernel
theorem dX9_next_0 : decode cX9_next 0 = .ok (.aload_n 0, 1) := by decide +kernel
theorem dX9_next_1 : decode cX9_next 1 = .ok (.iconst 0, 1) := by decide +kernel
theorem dX9_next_2 : decode cX9_next 2 = .ok (.putfield 74, 3) := by decide +kernel
theorem dX9_next_5 : decode cX9_next 5 = .ok (.aload_n 0, 1) := by decide +kernel
theorem dX9_next_6 : decode cX9_next 6 = .ok (.invokevirtual 156, 3) := by decide +kernel
theorem dX9_next_9 : decode cX9_next 9 = .ok (.istore_n 1, 1) := by decide +kernel
theorem dX9_next_10 : decode cX9_next 10 = .ok (.bipush (-9), 2) := by decide +kernel
theorem dX9_next_12 : decode cX9_next 12 = .ok (.istore_n 2, 1) := by decide +kernel
theorem dX9_next_13 : decode cX9_next 13 = .ok (.ldc 172, 2) := by decide +kernel
theorem dX9_next_15 : decode cX9_next 15 = .ok (.istore_n 3, 1) := by decide +kernel
theorem dX9_next_16 : decode cX9_next 16 = .ok (.iconst 0, 1) := by decide +kernel
theorem dX9_next_17 : decode cX9_next 17 = .ok (.istore 4, 2) := by decide +kernel
theorem dX9_next_19 : decode cX9_next 19 = .ok (.iload 4, 2) := by decide +kernel
theorem dX9_next_21 : decode cX9_next 21 = .ok (.iconst 5, 1) := by decide +kernel
theorem dX9_next_22 : decode cX9_next 22 = .ok (.if_icmp .ge 80, 3) := by decide +kernel
theorem dX9_next_25 : decode cX9_next 25 = .ok (.iload_n 1, 1) := by decide +kernel
theorem dX9_next_26 : decode cX9_next 26 = .ok (.invokestatic 189, 3) := by decide +kernel
theorem dX9_next_29 : decode cX9_next 29 = .ok (.iconst 1, 1) := by decide +kernel
theorem dX9_next_30 : decode cX9_next 30 = .ok (.if_icmp .le 72, 3) := by decide +kernel
theorem dX9_next_33 : decode cX9_next 33 = .ok (.aload_n 0, 1) := by decide +kernel
theorem dX9_next_34 : decode cX9_next 34 = .ok (.iload_n 1, 1) := by decide +kernel
theorem dX9_next_35 : decode cX9_next 35 = .ok (.iload 4, 2) := by decide +kernel
theorem dX9_next_37 : decode cX9_next 37 = .ok (.invokevirtual 192, 3) := by decide +kernel
theorem dX9_next_40 : decode cX9_next 40 = .ok (.invokestatic 189, 3) := by decide +kernel
theorem dX9_next_43 : decode cX9_next 43 = .ok (.istore 5, 2) := by decide +kernel
theorem dX9_next_45 : decode cX9_next 45 = .ok (.iload_n 1, 1) := by decide +kernel
theorem dX9_next_46 : decode cX9_next 46 = .ok (.invokestatic 189, 3) := by decide +kernel
theorem dX9_next_49 : decode cX9_next 49 = .ok (.iload 5, 2) := by decide +kernel
theorem dX9_next_51 : decode cX9_next 51 = .ok (.isub, 1) := by decide +kernel
theorem dX9_next_52 : decode cX9_next 52 = .ok (.istore 6, 2) := by decide +kernel
theorem dX9_next_54 : decode cX9_next 54 = .ok (.iload 5, 2) := by decide +kernel
theorem dX9_next_56 : decode cX9_next 56 = .ok (.iload 6, 2) := by decide +kernel
theorem dX9_next_58 : decode cX9_next 58 = .ok (.if_icmp .le 8, 3) := by decide +kernel
theorem dX9_next_61 : decode cX9_next 61 = .ok (.iload 5, 2) := by decide +kernel
theorem dX9_next_63 : decode cX9_next 63 = .ok (.goto 5, 3) := by decide +kernel
theorem dX9_next_66 : decode cX9_next 66 = .ok (.iload 6, 2) := by decide +kernel
theorem dX9_next_68 : decode cX9_next 68 = .ok (.istore 7, 2) := by decide +kernel
theorem dX9_next_70 : decode cX9_next 70 = .ok (.aload_n 0, 1) := by decide +kernel
theorem dX9_next_71 : decode cX9_next 71 = .ok (.getfield 34, 3) := by decide +kernel
theorem dX9_next_74 : decode cX9_next 74 = .ok (.iconst 4, 1) := by decide +kernel
theorem dX9_next_75 : decode cX9_next 75 = .ok (.iaload, 1) := by decide +kernel
theorem dX9_next_76 : decode cX9_next 76 = .ok (.iload 4, 2) := by decide +kernel
theorem dX9_next_78 : decode cX9_next 78 = .ok (.ishr, 1) := by decide +kernel
theorem dX9_next_79 : decode cX9_next 79 = .ok (.iconst 1, 1) := by decide +kernel
theorem dX9_next_80 : decode cX9_next 80 = .ok (.iand, 1) := by decide +kernel
theorem dX9_next_81 : decode cX9_next 81 = .ok (.ifCond .ne 15, 3) := by decide +kernel
theorem dX9_next_84 : decode cX9_next 84 = .ok (.iload 7, 2) := by decide +kernel
theorem dX9_next_86 : decode cX9_next 86 = .ok (.iload_n 3, 1) := by decide +kernel
theorem dX9_next_87 : decode cX9_next 87 = .ok (.if_icmp .ge 9, 3) := by decide +kernel
theorem dX9_next_90 : decode cX9_next 90 = .ok (.iload 4, 2) := by decide +kernel
theorem dX9_next_92 : decode cX9_next 92 = .ok (.istore_n 2, 1) := by decide +kernel
theorem dX9_next_93 : decode cX9_next 93 = .ok (.iload 7, 2) := by decide +kernel
theorem dX9_next_95 : decode cX9_next 95 = .ok (.istore_n 3, 1) := by decide +kernel
theorem dX9_next_96 : decode cX9_next 96 = .ok (.iinc 4 1, 3) := by decide +kernel
theorem dX9_next_99 : decode cX9_next 99 = .ok (.goto (-80), 3) := by decide +kernel
theorem dX9_next_102 : decode cX9_next 102 = .ok (.iload_n 2, 1) := by decide +kernel
theorem dX9_next_103 : decode cX9_next 103 = .ok (.ireturn, 1) := by decide +kernel
theorem dX9_questions_0 : decode cX9_questions 0 = .ok (.aload_n 0, 1) := by decide +kernel
theorem dX9_questions_1 : decode cX9_questions 1 = .ok (.iconst 0, 1) := by decide +kernel
theorem dX9_questions_2 : decode cX9_questions 2 = .ok (.putfield 74, 3) := by decide +kernel
theorem dX9_questions_5 : decode cX9_questions 5 = .ok (.iconst 0, 1) := by decide +kernel
theorem dX9_questions_6 : decode cX9_questions 6 = .ok (.istore_n 1, 1) := by decide +kernel
theorem dX9_questions_7 : decode cX9_questions 7 = .ok (.iload_n 1, 1) := by decide +kernel
theorem dX9_questions_8 : decode cX9_questions 8 = .ok (.bipush 64, 2) := by decide +kernel
theorem dX9_questions_10 : decode cX9_questions 10 = .ok (.if_icmp .ge 121, 3) := by decide +kernel
theorem dX9_questions_13 : decode cX9_questions 13 = .ok (.ldc 172, 2) := by decide +kernel
theorem dX9_questions_15 : decode cX9_questions 15 = .ok (.istore_n 2, 1) := by decide +kernel
theorem dX9_questions_16 : decode cX9_questions 16 = .ok (.iconst 0, 1) := by decide +kernel
theorem dX9_questions_17 : decode cX9_questions 17 = .ok (.istore_n 3, 1) := by decide +kernel
theorem dX9_questions_18 : decode cX9_questions 18 = .ok (.iload_n 3, 1) := by decide +kernel
theorem dX9_questions_19 : decode cX9_questions 19 = .ok (.iconst 5, 1) := by decide +kernel
theorem dX9_questions_20 : decode cX9_questions 20 = .ok (.if_icmp .ge 88, 3) := by decide +kernel
theorem dX9_questions_23 : decode cX9_questions 23 = .ok (.aload_n 0, 1) := by decide +kernel
theorem dX9_questions_24 : decode cX9_questions 24 = .ok (.iload_n 1, 1) := by decide +kernel
theorem dX9_questions_25 : decode cX9_questions 25 = .ok (.iload_n 3, 1) := by decide +kernel
theorem dX9_questions_26 : decode cX9_questions 26 = .ok (.invokevirtual 192, 3) := by decide +kernel
theorem dX9_questions_29 : decode cX9_questions 29 = .ok (.istore 4, 2) := by decide +kernel
theorem dX9_questions_31 : decode cX9_questions 31 = .ok (.iload_n 1, 1) := by decide +kernel
theorem dX9_questions_32 : decode cX9_questions 32 = .ok (.iload 4, 2) := by decide +kernel
theorem dX9_questions_34 : decode cX9_questions 34 = .ok (.iconst (-1), 1) := by decide +kernel
theorem dX9_questions_35 : decode cX9_questions 35 = .ok (.ixor, 1) := by decide +kernel
theorem dX9_questions_36 : decode cX9_questions 36 = .ok (.iand, 1) := by decide +kernel
theorem dX9_questions_37 : decode cX9_questions 37 = .ok (.istore 5, 2) := by decide +kernel
theorem dX9_questions_39 : decode cX9_questions 39 = .ok (.iload 4, 2) := by decide +kernel
theorem dX9_questions_41 : decode cX9_questions 41 = .ok (.ifCond .eq 61, 3) := by decide +kernel
theorem dX9_questions_44 : decode cX9_questions 44 = .ok (.iload 5, 2) := by decide +kernel
theorem dX9_questions_46 : decode cX9_questions 46 = .ok (.ifCond .eq 56, 3) := by decide +kernel
theorem dX9_questions_49 : decode cX9_questions 49 = .ok (.aload_n 0, 1) := by decide +kernel
theorem dX9_questions_50 : decode cX9_questions 50 = .ok (.getfield 65, 3) := by decide +kernel
theorem dX9_questions_53 : decode cX9_questions 53 = .ok (.iload 4, 2) := by decide +kernel
theorem dX9_questions_55 : decode cX9_questions 55 = .ok (.iaload, 1) := by decide +kernel
theorem dX9_questions_56 : decode cX9_questions 56 = .ok (.aload_n 0, 1) := by decide +kernel
theorem dX9_questions_57 : decode cX9_questions 57 = .ok (.getfield 65, 3) := by decide +kernel
theorem dX9_questions_60 : decode cX9_questions 60 = .ok (.iload 5, 2) := by decide +kernel
theorem dX9_questions_62 : decode cX9_questions 62 = .ok (.iaload, 1) := by decide +kernel
theorem dX9_questions_63 : decode cX9_questions 63 = .ok (.if_icmp .le 13, 3) := by decide +kernel
theorem dX9_questions_66 : decode cX9_questions 66 = .ok (.aload_n 0, 1) := by decide +kernel
theorem dX9_questions_67 : decode cX9_questions 67 = .ok (.getfield 65, 3) := by decide +kernel
theorem dX9_questions_70 : decode cX9_questions 70 = .ok (.iload 4, 2) := by decide +kernel
theorem dX9_questions_72 : decode cX9_questions 72 = .ok (.iaload, 1) := by decide +kernel
theorem dX9_questions_73 : decode cX9_questions 73 = .ok (.goto 10, 3) := by decide +kernel
theorem dX9_questions_76 : decode cX9_questions 76 = .ok (.aload_n 0, 1) := by decide +kernel
theorem dX9_questions_77 : decode cX9_questions 77 = .ok (.getfield 65, 3) := by decide +kernel
theorem dX9_questions_80 : decode cX9_questions 80 = .ok (.iload 5, 2) := by decide +kernel
theorem dX9_questions_82 : decode cX9_questions 82 = .ok (.iaload, 1) := by decide +kernel
theorem dX9_questions_83 : decode cX9_questions 83 = .ok (.istore 6, 2) := by decide +kernel
theorem dX9_questions_85 : decode cX9_questions 85 = .ok (.iconst 1, 1) := by decide +kernel
theorem dX9_questions_86 : decode cX9_questions 86 = .ok (.iload 6, 2) := by decide +kernel
theorem dX9_questions_88 : decode cX9_questions 88 = .ok (.iadd, 1) := by decide +kernel
theorem dX9_questions_89 : decode cX9_questions 89 = .ok (.iload_n 2, 1) := by decide +kernel
theorem dX9_questions_90 : decode cX9_questions 90 = .ok (.if_icmp .ge 10, 3) := by decide +kernel
theorem dX9_questions_93 : decode cX9_questions 93 = .ok (.iconst 1, 1) := by decide +kernel
theorem dX9_questions_94 : decode cX9_questions 94 = .ok (.iload 6, 2) := by decide +kernel
theorem dX9_questions_96 : decode cX9_questions 96 = .ok (.iadd, 1) := by decide +kernel
theorem dX9_questions_97 : decode cX9_questions 97 = .ok (.goto 4, 3) := by decide +kernel
theorem dX9_questions_100 : decode cX9_questions 100 = .ok (.iload_n 2, 1) := by decide +kernel
theorem dX9_questions_101 : decode cX9_questions 101 = .ok (.istore_n 2, 1) := by decide +kernel
theorem dX9_questions_102 : decode cX9_questions 102 = .ok (.iinc 3 1, 3) := by decide +kernel
theorem dX9_questions_105 : decode cX9_questions 105 = .ok (.goto (-87), 3) := by decide +kernel
theorem dX9_questions_108 : decode cX9_questions 108 = .ok (.aload_n 0, 1) := by decide +kernel
theorem dX9_questions_109 : decode cX9_questions 109 = .ok (.getfield 65, 3) := by decide +kernel
theorem dX9_questions_112 : decode cX9_questions 112 = .ok (.iload_n 1, 1) := by decide +kernel
theorem dX9_questions_113 : decode cX9_questions 113 = .ok (.iload_n 2, 1) := by decide +kernel
theorem dX9_questions_114 : decode cX9_questions 114 = .ok (.ldc 172, 2) := by decide +kernel
theorem dX9_questions_116 : decode cX9_questions 116 = .ok (.if_icmp .ne 7, 3) := by decide +kernel
theorem dX9_questions_119 : decode cX9_questions 119 = .ok (.iconst 0, 1) := by decide +kernel
theorem dX9_questions_120 : decode cX9_questions 120 = .ok (.goto 4, 3) := by decide +kernel
theorem dX9_questions_123 : decode cX9_questions 123 = .ok (.iload_n 2, 1) := by decide +kernel
theorem dX9_questions_124 : decode cX9_questions 124 = .ok (.iastore, 1) := by decide +kernel
theorem dX9_questions_125 : decode cX9_questions 125 = .ok (.iinc 1 1, 3) := by decide +kernel
theorem dX9_questions_128 : decode cX9_questions 128 = .ok (.goto (-121), 3) := by decide +kernel
theorem dX9_questions_131 : decode cX9_questions 131 = .ok (.aload_n 0, 1) := by decide +kernel
theorem dX9_questions_132 : decode cX9_questions 132 = .ok (.getfield 65, 3) := by decide +kernel
theorem dX9_questions_135 : decode cX9_questions 135 = .ok (.aload_n 0, 1) := by decide +kernel
theorem dX9_questions_136 : decode cX9_questions 136 = .ok (.invokevirtual 156, 3) := by decide +kernel
theorem dX9_questions_139 : decode cX9_questions 139 = .ok (.iaload, 1) := by decide +kernel
theorem dX9_questions_140 : decode cX9_questions 140 = .ok (.ireturn, 1) := by decide +kernel
theorem dX9_felt_0 : decode cX9_felt 0 = .ok (.aload_n 0, 1) := by decide +kernel
theorem dX9_felt_1 : decode cX9_felt 1 = .ok (.iconst 0, 1) := by decide +kernel
theorem dX9_felt_2 : decode cX9_felt 2 = .ok (.putfield 74, 3) := by decide +kernel
theorem dX9_felt_5 : decode cX9_felt 5 = .ok (.aload_n 0, 1) := by decide +kernel
theorem dX9_felt_6 : decode cX9_felt 6 = .ok (.iload_n 1, 1) := by decide +kernel
theorem dX9_felt_7 : decode cX9_felt 7 = .ok (.invokevirtual 149, 3) := by decide +kernel
theorem dX9_felt_10 : decode cX9_felt 10 = .ok (.ifCond .eq 13, 3) := by decide +kernel
theorem dX9_felt_13 : decode cX9_felt 13 = .ok (.iload_n 2, 1) := by decide +kernel
theorem dX9_felt_14 : decode cX9_felt 14 = .ok (.iconst 0, 1) := by decide +kernel
theorem dX9_felt_15 : decode cX9_felt 15 = .ok (.bipush 30, 2) := by decide +kernel
theorem dX9_felt_17 : decode cX9_felt 17 = .ok (.invokestatic 78, 3) := by decide +kernel
theorem dX9_felt_20 : decode cX9_felt 20 = .ok (.ifCond .ne 5, 3) := by decide +kernel
theorem dX9_felt_23 : decode cX9_felt 23 = .ok (.iconst (-1), 1) := by decide +kernel
theorem dX9_felt_24 : decode cX9_felt 24 = .ok (.ireturn, 1) := by decide +kernel
theorem dX9_felt_25 : decode cX9_felt 25 = .ok (.aload_n 0, 1) := by decide +kernel
theorem dX9_felt_26 : decode cX9_felt 26 = .ok (.getfield 136, 3) := by decide +kernel
theorem dX9_felt_29 : decode cX9_felt 29 = .ok (.iconst 5, 1) := by decide +kernel
theorem dX9_felt_30 : decode cX9_felt 30 = .ok (.if_icmp .ne 6, 3) := by decide +kernel
theorem dX9_felt_33 : decode cX9_felt 33 = .ok (.bipush (-3), 2) := by decide +kernel
theorem dX9_felt_35 : decode cX9_felt 35 = .ok (.ireturn, 1) := by decide +kernel
theorem dX9_felt_36 : decode cX9_felt 36 = .ok (.aload_n 0, 1) := by decide +kernel
theorem dX9_felt_37 : decode cX9_felt 37 = .ok (.getfield 47, 3) := by decide +kernel
theorem dX9_felt_40 : decode cX9_felt 40 = .ok (.aload_n 0, 1) := by decide +kernel
theorem dX9_felt_41 : decode cX9_felt 41 = .ok (.getfield 136, 3) := by decide +kernel
theorem dX9_felt_44 : decode cX9_felt 44 = .ok (.iload_n 1, 1) := by decide +kernel
theorem dX9_felt_45 : decode cX9_felt 45 = .ok (.iastore, 1) := by decide +kernel
theorem dX9_felt_46 : decode cX9_felt 46 = .ok (.aload_n 0, 1) := by decide +kernel
theorem dX9_felt_47 : decode cX9_felt 47 = .ok (.getfield 50, 3) := by decide +kernel
theorem dX9_felt_50 : decode cX9_felt 50 = .ok (.aload_n 0, 1) := by decide +kernel
theorem dX9_felt_51 : decode cX9_felt 51 = .ok (.getfield 136, 3) := by decide +kernel
theorem dX9_felt_54 : decode cX9_felt 54 = .ok (.iload_n 2, 1) := by decide +kernel
theorem dX9_felt_55 : decode cX9_felt 55 = .ok (.iastore, 1) := by decide +kernel
theorem dX9_felt_56 : decode cX9_felt 56 = .ok (.aload_n 0, 1) := by decide +kernel
theorem dX9_felt_57 : decode cX9_felt 57 = .ok (.dup, 1) := by decide +kernel
theorem dX9_felt_58 : decode cX9_felt 58 = .ok (.getfield 136, 3) := by decide +kernel
theorem dX9_felt_61 : decode cX9_felt 61 = .ok (.iconst 1, 1) := by decide +kernel
theorem dX9_felt_62 : decode cX9_felt 62 = .ok (.iadd, 1) := by decide +kernel
theorem dX9_felt_63 : decode cX9_felt 63 = .ok (.putfield 136, 3) := by decide +kernel
theorem dX9_felt_66 : decode cX9_felt 66 = .ok (.aload_n 0, 1) := by decide +kernel
theorem dX9_felt_67 : decode cX9_felt 67 = .ok (.getfield 136, 3) := by decide +kernel
theorem dX9_felt_70 : decode cX9_felt 70 = .ok (.ireturn, 1) := by decide +kernel
theorem dX9_forget_0 : decode cX9_forget 0 = .ok (.aload_n 0, 1) := by decide +kernel
theorem dX9_forget_1 : decode cX9_forget 1 = .ok (.iconst 0, 1) := by decide +kernel
theorem dX9_forget_2 : decode cX9_forget 2 = .ok (.putfield 74, 3) := by decide +kernel
theorem dX9_forget_5 : decode cX9_forget 5 = .ok (.aload_n 0, 1) := by decide +kernel
theorem dX9_forget_6 : decode cX9_forget 6 = .ok (.getfield 136, 3) := by decide +kernel
theorem dX9_forget_9 : decode cX9_forget 9 = .ok (.istore_n 1, 1) := by decide +kernel
theorem dX9_forget_10 : decode cX9_forget 10 = .ok (.aload_n 0, 1) := by decide +kernel
theorem dX9_forget_11 : decode cX9_forget 11 = .ok (.iconst 0, 1) := by decide +kernel
theorem dX9_forget_12 : decode cX9_forget 12 = .ok (.putfield 136, 3) := by decide +kernel
theorem dX9_forget_15 : decode cX9_forget 15 = .ok (.iload_n 1, 1) := by decide +kernel
theorem dX9_forget_16 : decode cX9_forget 16 = .ok (.ireturn, 1) := by decide +kernel
theorem dX9_tempers_0 : decode cX9_tempers 0 = .ok (.aload_n 0, 1) := by decide +kernel
theorem dX9_tempers_1 : decode cX9_tempers 1 = .ok (.iconst 0, 1) := by decide +kernel
theorem dX9_tempers_2 : decode cX9_tempers 2 = .ok (.putfield 74, 3) := by decide +kernel
theorem dX9_tempers_5 : decode cX9_tempers 5 = .ok (.iconst 0, 1) := by decide +kernel
theorem dX9_tempers_6 : decode cX9_tempers 6 = .ok (.istore_n 1, 1) := by decide +kernel
theorem dX9_tempers_7 : decode cX9_tempers 7 = .ok (.iconst 0, 1) := by decide +kernel
theorem dX9_tempers_8 : decode cX9_tempers 8 = .ok (.istore_n 2, 1) := by decide +kernel
theorem dX9_tempers_9 : decode cX9_tempers 9 = .ok (.iload_n 2, 1) := by decide +kernel
theorem dX9_tempers_10 : decode cX9_tempers 10 = .ok (.iconst 4, 1) := by decide +kernel
theorem dX9_tempers_11 : decode cX9_tempers 11 = .ok (.if_icmp .ge 77, 3) := by decide +kernel
theorem dX9_tempers_14 : decode cX9_tempers 14 = .ok (.iconst 1, 1) := by decide +kernel
theorem dX9_tempers_15 : decode cX9_tempers 15 = .ok (.istore_n 3, 1) := by decide +kernel
theorem dX9_tempers_16 : decode cX9_tempers 16 = .ok (.iconst 0, 1) := by decide +kernel
theorem dX9_tempers_17 : decode cX9_tempers 17 = .ok (.istore 4, 2) := by decide +kernel
theorem dX9_tempers_19 : decode cX9_tempers 19 = .ok (.iload 4, 2) := by decide +kernel
theorem dX9_tempers_21 : decode cX9_tempers 21 = .ok (.aload_n 0, 1) := by decide +kernel
theorem dX9_tempers_22 : decode cX9_tempers 22 = .ok (.getfield 136, 3) := by decide +kernel
theorem dX9_tempers_25 : decode cX9_tempers 25 = .ok (.if_icmp .ge 43, 3) := by decide +kernel
theorem dX9_tempers_28 : decode cX9_tempers 28 = .ok (.iload_n 3, 1) := by decide +kernel
theorem dX9_tempers_29 : decode cX9_tempers 29 = .ok (.ifCond .eq 31, 3) := by decide +kernel
theorem dX9_tempers_32 : decode cX9_tempers 32 = .ok (.aload_n 0, 1) := by decide +kernel
theorem dX9_tempers_33 : decode cX9_tempers 33 = .ok (.getfield 25, 3) := by decide +kernel
theorem dX9_tempers_36 : decode cX9_tempers 36 = .ok (.aload_n 0, 1) := by decide +kernel
theorem dX9_tempers_37 : decode cX9_tempers 37 = .ok (.getfield 47, 3) := by decide +kernel
theorem dX9_tempers_40 : decode cX9_tempers 40 = .ok (.iload 4, 2) := by decide +kernel
theorem dX9_tempers_42 : decode cX9_tempers 42 = .ok (.iaload, 1) := by decide +kernel
theorem dX9_tempers_43 : decode cX9_tempers 43 = .ok (.iaload, 1) := by decide +kernel
theorem dX9_tempers_44 : decode cX9_tempers 44 = .ok (.iload_n 2, 1) := by decide +kernel
theorem dX9_tempers_45 : decode cX9_tempers 45 = .ok (.imul, 1) := by decide +kernel
theorem dX9_tempers_46 : decode cX9_tempers 46 = .ok (.aload_n 0, 1) := by decide +kernel
theorem dX9_tempers_47 : decode cX9_tempers 47 = .ok (.getfield 50, 3) := by decide +kernel
theorem dX9_tempers_50 : decode cX9_tempers 50 = .ok (.iload 4, 2) := by decide +kernel
theorem dX9_tempers_52 : decode cX9_tempers 52 = .ok (.iaload, 1) := by decide +kernel
theorem dX9_tempers_53 : decode cX9_tempers 53 = .ok (.if_icmp .ne 7, 3) := by decide +kernel
theorem dX9_tempers_56 : decode cX9_tempers 56 = .ok (.iconst 1, 1) := by decide +kernel
theorem dX9_tempers_57 : decode cX9_tempers 57 = .ok (.goto 4, 3) := by decide +kernel
theorem dX9_tempers_60 : decode cX9_tempers 60 = .ok (.iconst 0, 1) := by decide +kernel
theorem dX9_tempers_61 : decode cX9_tempers 61 = .ok (.istore_n 3, 1) := by decide +kernel
theorem dX9_tempers_62 : decode cX9_tempers 62 = .ok (.iinc 4 1, 3) := by decide +kernel
theorem dX9_tempers_65 : decode cX9_tempers 65 = .ok (.goto (-46), 3) := by decide +kernel
theorem dX9_tempers_68 : decode cX9_tempers 68 = .ok (.iload_n 1, 1) := by decide +kernel
theorem dX9_tempers_69 : decode cX9_tempers 69 = .ok (.iload_n 3, 1) := by decide +kernel
theorem dX9_tempers_70 : decode cX9_tempers 70 = .ok (.ifCond .eq 9, 3) := by decide +kernel
theorem dX9_tempers_73 : decode cX9_tempers 73 = .ok (.iconst 1, 1) := by decide +kernel
theorem dX9_tempers_74 : decode cX9_tempers 74 = .ok (.iload_n 2, 1) := by decide +kernel
theorem dX9_tempers_75 : decode cX9_tempers 75 = .ok (.ishl, 1) := by decide +kernel
theorem dX9_tempers_76 : decode cX9_tempers 76 = .ok (.goto 4, 3) := by decide +kernel
theorem dX9_tempers_79 : decode cX9_tempers 79 = .ok (.iconst 0, 1) := by decide +kernel
theorem dX9_tempers_80 : decode cX9_tempers 80 = .ok (.ior, 1) := by decide +kernel
theorem dX9_tempers_81 : decode cX9_tempers 81 = .ok (.istore_n 1, 1) := by decide +kernel
theorem dX9_tempers_82 : decode cX9_tempers 82 = .ok (.iinc 2 1, 3) := by decide +kernel
theorem dX9_tempers_85 : decode cX9_tempers 85 = .ok (.goto (-76), 3) := by decide +kernel
theorem dX9_tempers_88 : decode cX9_tempers 88 = .ok (.iload_n 1, 1) := by decide +kernel
theorem dX9_tempers_89 : decode cX9_tempers 89 = .ok (.ireturn, 1) := by decide +kernel
theorem dX9_which_0 : decode cX9_which 0 = .ok (.aload_n 0, 1) := by decide +kernel
theorem dX9_which_1 : decode cX9_which 1 = .ok (.iconst 0, 1) := by decide +kernel
theorem dX9_which_2 : decode cX9_which 2 = .ok (.putfield 74, 3) := by decide +kernel
theorem dX9_which_5 : decode cX9_which 5 = .ok (.aload_n 0, 1) := by decide +kernel
theorem dX9_which_6 : decode cX9_which 6 = .ok (.iload_n 1, 1) := by decide +kernel
theorem dX9_which_7 : decode cX9_which 7 = .ok (.invokevirtual 149, 3) := by decide +kernel
theorem dX9_which_10 : decode cX9_which 10 = .ok (.ifCond .eq 13, 3) := by decide +kernel
theorem dX9_which_13 : decode cX9_which 13 = .ok (.iload_n 2, 1) := by decide +kernel
theorem dX9_which_14 : decode cX9_which 14 = .ok (.iconst 0, 1) := by decide +kernel
theorem dX9_which_15 : decode cX9_which 15 = .ok (.bipush 30, 2) := by decide +kernel
theorem dX9_which_17 : decode cX9_which 17 = .ok (.invokestatic 78, 3) := by decide +kernel
theorem dX9_which_20 : decode cX9_which 20 = .ok (.ifCond .ne 5, 3) := by decide +kernel
theorem dX9_which_23 : decode cX9_which 23 = .ok (.iconst (-1), 1) := by decide +kernel
theorem dX9_which_24 : decode cX9_which 24 = .ok (.ireturn, 1) := by decide +kernel
theorem dX9_which_25 : decode cX9_which 25 = .ok (.iconst 0, 1) := by decide +kernel
theorem dX9_which_26 : decode cX9_which 26 = .ok (.istore_n 3, 1) := by decide +kernel
theorem dX9_which_27 : decode cX9_which 27 = .ok (.iconst 0, 1) := by decide +kernel
theorem dX9_which_28 : decode cX9_which 28 = .ok (.istore 4, 2) := by decide +kernel
theorem dX9_which_30 : decode cX9_which 30 = .ok (.iload 4, 2) := by decide +kernel
theorem dX9_which_32 : decode cX9_which 32 = .ok (.aload_n 0, 1) := by decide +kernel
theorem dX9_which_33 : decode cX9_which 33 = .ok (.getfield 13, 3) := by decide +kernel
theorem dX9_which_36 : decode cX9_which 36 = .ok (.iconst 0, 1) := by decide +kernel
theorem dX9_which_37 : decode cX9_which 37 = .ok (.iaload, 1) := by decide +kernel
theorem dX9_which_38 : decode cX9_which 38 = .ok (.if_icmp .ge 38, 3) := by decide +kernel
theorem dX9_which_41 : decode cX9_which 41 = .ok (.iload_n 3, 1) := by decide +kernel
theorem dX9_which_42 : decode cX9_which 42 = .ok (.aload_n 0, 1) := by decide +kernel
theorem dX9_which_43 : decode cX9_which 43 = .ok (.getfield 25, 3) := by decide +kernel
theorem dX9_which_46 : decode cX9_which 46 = .ok (.iload_n 1, 1) := by decide +kernel
theorem dX9_which_47 : decode cX9_which 47 = .ok (.iaload, 1) := by decide +kernel
theorem dX9_which_48 : decode cX9_which 48 = .ok (.aload_n 0, 1) := by decide +kernel
theorem dX9_which_49 : decode cX9_which 49 = .ok (.getfield 19, 3) := by decide +kernel
theorem dX9_which_52 : decode cX9_which 52 = .ok (.iload 4, 2) := by decide +kernel
theorem dX9_which_54 : decode cX9_which 54 = .ok (.iaload, 1) := by decide +kernel
theorem dX9_which_55 : decode cX9_which 55 = .ok (.imul, 1) := by decide +kernel
theorem dX9_which_56 : decode cX9_which 56 = .ok (.iload_n 2, 1) := by decide +kernel
theorem dX9_which_57 : decode cX9_which 57 = .ok (.if_icmp .ne 10, 3) := by decide +kernel
theorem dX9_which_60 : decode cX9_which 60 = .ok (.iconst 1, 1) := by decide +kernel
theorem dX9_which_61 : decode cX9_which 61 = .ok (.iload 4, 2) := by decide +kernel
theorem dX9_which_63 : decode cX9_which 63 = .ok (.ishl, 1) := by decide +kernel
theorem dX9_which_64 : decode cX9_which 64 = .ok (.goto 4, 3) := by decide +kernel
theorem dX9_which_67 : decode cX9_which 67 = .ok (.iconst 0, 1) := by decide +kernel
theorem dX9_which_68 : decode cX9_which 68 = .ok (.ior, 1) := by decide +kernel
theorem dX9_which_69 : decode cX9_which 69 = .ok (.istore_n 3, 1) := by decide +kernel
theorem dX9_which_70 : decode cX9_which 70 = .ok (.iinc 4 1, 3) := by decide +kernel
theorem dX9_which_73 : decode cX9_which 73 = .ok (.goto (-43), 3) := by decide +kernel
theorem dX9_which_76 : decode cX9_which 76 = .ok (.iload_n 3, 1) := by decide +kernel
theorem dX9_which_77 : decode cX9_which 77 = .ok (.ireturn, 1) := by decide +kernel
theorem dX9_power_0 : decode cX9_power 0 = .ok (.iconst 1, 1) := by decide +kernel
theorem dX9_power_1 : decode cX9_power 1 = .ok (.istore_n 2, 1) := by decide +kernel
theorem dX9_power_2 : decode cX9_power 2 = .ok (.iconst 0, 1) := by decide +kernel
theorem dX9_power_3 : decode cX9_power 3 = .ok (.istore_n 3, 1) := by decide +kernel
theorem dX9_power_4 : decode cX9_power 4 = .ok (.iload_n 3, 1) := by decide +kernel
theorem dX9_power_5 : decode cX9_power 5 = .ok (.iload_n 1, 1) := by decide +kernel
theorem dX9_power_6 : decode cX9_power 6 = .ok (.if_icmp .ge 13, 3) := by decide +kernel
theorem dX9_power_9 : decode cX9_power 9 = .ok (.iload_n 2, 1) := by decide +kernel
theorem dX9_power_10 : decode cX9_power 10 = .ok (.iload_n 0, 1) := by decide +kernel
theorem dX9_power_11 : decode cX9_power 11 = .ok (.imul, 1) := by decide +kernel
theorem dX9_power_12 : decode cX9_power 12 = .ok (.istore_n 2, 1) := by decide +kernel
theorem dX9_power_13 : decode cX9_power 13 = .ok (.iinc 3 1, 3) := by decide +kernel
theorem dX9_power_16 : decode cX9_power 16 = .ok (.goto (-12), 3) := by decide +kernel
theorem dX9_power_19 : decode cX9_power 19 = .ok (.iload_n 2, 1) := by decide +kernel
theorem dX9_power_20 : decode cX9_power 20 = .ok (.ireturn, 1) := by decide +kernel
theorem dX9_gcd_0 : decode cX9_gcd 0 = .ok (.iload_n 0, 1) := by decide +kernel
theorem dX9_gcd_1 : decode cX9_gcd 1 = .ok (.istore_n 2, 1) := by decide +kernel
theorem dX9_gcd_2 : decode cX9_gcd 2 = .ok (.iload_n 1, 1) := by decide +kernel
theorem dX9_gcd_3 : decode cX9_gcd 3 = .ok (.istore_n 3, 1) := by decide +kernel
theorem dX9_gcd_4 : decode cX9_gcd 4 = .ok (.iload_n 3, 1) := by decide +kernel
theorem dX9_gcd_5 : decode cX9_gcd 5 = .ok (.ifCond .eq 16, 3) := by decide +kernel
theorem dX9_gcd_8 : decode cX9_gcd 8 = .ok (.iload_n 2, 1) := by decide +kernel
theorem dX9_gcd_9 : decode cX9_gcd 9 = .ok (.iload_n 3, 1) := by decide +kernel
theorem dX9_gcd_10 : decode cX9_gcd 10 = .ok (.irem, 1) := by decide +kernel
theorem dX9_gcd_11 : decode cX9_gcd 11 = .ok (.istore 4, 2) := by decide +kernel
theorem dX9_gcd_13 : decode cX9_gcd 13 = .ok (.iload_n 3, 1) := by decide +kernel
theorem dX9_gcd_14 : decode cX9_gcd 14 = .ok (.istore_n 2, 1) := by decide +kernel
theorem dX9_gcd_15 : decode cX9_gcd 15 = .ok (.iload 4, 2) := by decide +kernel
theorem dX9_gcd_17 : decode cX9_gcd 17 = .ok (.istore_n 3, 1) := by decide +kernel
theorem dX9_gcd_18 : decode cX9_gcd 18 = .ok (.goto (-14), 3) := by decide +kernel
theorem dX9_gcd_21 : decode cX9_gcd 21 = .ok (.iload_n 2, 1) := by decide +kernel
theorem dX9_gcd_22 : decode cX9_gcd 22 = .ok (.ireturn, 1) := by decide +kernel
theorem dX9_odds_0 : decode cX9_odds 0 = .ok (.aload_n 0, 1) := by decide +kernel
theorem dX9_odds_1 : decode cX9_odds 1 = .ok (.iconst 0, 1) := by decide +kernel
theorem dX9_odds_2 : decode cX9_odds 2 = .ok (.putfield 74, 3) := by decide +kernel
theorem dX9_odds_5 : decode cX9_odds 5 = .ok (.aload_n 0, 1) := by decide +kernel
theorem dX9_odds_6 : decode cX9_odds 6 = .ok (.iload_n 1, 1) := by decide +kernel
theorem dX9_odds_7 : decode cX9_odds 7 = .ok (.invokevirtual 142, 3) := by decide +kernel
theorem dX9_odds_10 : decode cX9_odds 10 = .ok (.ifCond .eq 42, 3) := by decide +kernel
theorem dX9_odds_13 : decode cX9_odds 13 = .ok (.aload_n 0, 1) := by decide +kernel
theorem dX9_odds_14 : decode cX9_odds 14 = .ok (.iload_n 2, 1) := by decide +kernel
theorem dX9_odds_15 : decode cX9_odds 15 = .ok (.invokevirtual 149, 3) := by decide +kernel
theorem dX9_odds_18 : decode cX9_odds 18 = .ok (.ifCond .eq 34, 3) := by decide +kernel
theorem dX9_odds_21 : decode cX9_odds 21 = .ok (.iload_n 3, 1) := by decide +kernel
theorem dX9_odds_22 : decode cX9_odds 22 = .ok (.iconst 0, 1) := by decide +kernel
theorem dX9_odds_23 : decode cX9_odds 23 = .ok (.bipush 10, 2) := by decide +kernel
theorem dX9_odds_25 : decode cX9_odds 25 = .ok (.invokestatic 78, 3) := by decide +kernel
theorem dX9_odds_28 : decode cX9_odds 28 = .ok (.ifCond .eq 24, 3) := by decide +kernel
theorem dX9_odds_31 : decode cX9_odds 31 = .ok (.iload 4, 2) := by decide +kernel
theorem dX9_odds_33 : decode cX9_odds 33 = .ok (.iconst 0, 1) := by decide +kernel
theorem dX9_odds_34 : decode cX9_odds 34 = .ok (.bipush 6, 2) := by decide +kernel
theorem dX9_odds_36 : decode cX9_odds 36 = .ok (.invokestatic 78, 3) := by decide +kernel
theorem dX9_odds_39 : decode cX9_odds 39 = .ok (.ifCond .eq 13, 3) := by decide +kernel
theorem dX9_odds_42 : decode cX9_odds 42 = .ok (.iload 5, 2) := by decide +kernel
theorem dX9_odds_44 : decode cX9_odds 44 = .ok (.iconst 0, 1) := by decide +kernel
theorem dX9_odds_45 : decode cX9_odds 45 = .ok (.iconst 1, 1) := by decide +kernel
theorem dX9_odds_46 : decode cX9_odds 46 = .ok (.invokestatic 78, 3) := by decide +kernel
theorem dX9_odds_49 : decode cX9_odds 49 = .ok (.ifCond .ne 5, 3) := by decide +kernel
theorem dX9_odds_52 : decode cX9_odds 52 = .ok (.iconst (-1), 1) := by decide +kernel
theorem dX9_odds_53 : decode cX9_odds 53 = .ok (.ireturn, 1) := by decide +kernel
theorem dX9_odds_54 : decode cX9_odds 54 = .ok (.aload_n 0, 1) := by decide +kernel
theorem dX9_odds_55 : decode cX9_odds 55 = .ok (.iload_n 1, 1) := by decide +kernel
theorem dX9_odds_56 : decode cX9_odds 56 = .ok (.invokevirtual 146, 3) := by decide +kernel
theorem dX9_odds_59 : decode cX9_odds 59 = .ok (.ifCond .eq 6, 3) := by decide +kernel
theorem dX9_odds_62 : decode cX9_odds 62 = .ok (.bipush (-2), 2) := by decide +kernel
theorem dX9_odds_64 : decode cX9_odds 64 = .ok (.ireturn, 1) := by decide +kernel
theorem dX9_odds_65 : decode cX9_odds 65 = .ok (.iconst 0, 1) := by decide +kernel
theorem dX9_odds_66 : decode cX9_odds 66 = .ok (.istore 6, 2) := by decide +kernel
theorem dX9_odds_68 : decode cX9_odds 68 = .ok (.iconst 0, 1) := by decide +kernel
theorem dX9_odds_69 : decode cX9_odds 69 = .ok (.istore 7, 2) := by decide +kernel
theorem dX9_odds_71 : decode cX9_odds 71 = .ok (.iload 7, 2) := by decide +kernel
theorem dX9_odds_73 : decode cX9_odds 73 = .ok (.iconst 1, 1) := by decide +kernel
theorem dX9_odds_74 : decode cX9_odds 74 = .ok (.iload 4, 2) := by decide +kernel
theorem dX9_odds_76 : decode cX9_odds 76 = .ok (.ishl, 1) := by decide +kernel
theorem dX9_odds_77 : decode cX9_odds 77 = .ok (.if_icmp .ge 72, 3) := by decide +kernel
theorem dX9_odds_80 : decode cX9_odds 80 = .ok (.iload 7, 2) := by decide +kernel
theorem dX9_odds_82 : decode cX9_odds 82 = .ok (.invokestatic 189, 3) := by decide +kernel
theorem dX9_odds_85 : decode cX9_odds 85 = .ok (.istore 8, 2) := by decide +kernel
theorem dX9_odds_87 : decode cX9_odds 87 = .ok (.iload 6, 2) := by decide +kernel
theorem dX9_odds_89 : decode cX9_odds 89 = .ok (.aload_n 0, 1) := by decide +kernel
theorem dX9_odds_90 : decode cX9_odds 90 = .ok (.getfield 34, 3) := by decide +kernel
theorem dX9_odds_93 : decode cX9_odds 93 = .ok (.iconst 5, 1) := by decide +kernel
theorem dX9_odds_94 : decode cX9_odds 94 = .ok (.iload_n 1, 1) := by decide +kernel
theorem dX9_odds_95 : decode cX9_odds 95 = .ok (.iadd, 1) := by decide +kernel
theorem dX9_odds_96 : decode cX9_odds 96 = .ok (.iaload, 1) := by decide +kernel
theorem dX9_odds_97 : decode cX9_odds 97 = .ok (.iload 8, 2) := by decide +kernel
theorem dX9_odds_99 : decode cX9_odds 99 = .ok (.aload_n 0, 1) := by decide +kernel
theorem dX9_odds_100 : decode cX9_odds 100 = .ok (.getfield 25, 3) := by decide +kernel
theorem dX9_odds_103 : decode cX9_odds 103 = .ok (.iload_n 2, 1) := by decide +kernel
theorem dX9_odds_104 : decode cX9_odds 104 = .ok (.iaload, 1) := by decide +kernel
theorem dX9_odds_105 : decode cX9_odds 105 = .ok (.imul, 1) := by decide +kernel
theorem dX9_odds_106 : decode cX9_odds 106 = .ok (.aload_n 0, 1) := by decide +kernel
theorem dX9_odds_107 : decode cX9_odds 107 = .ok (.getfield 19, 3) := by decide +kernel
theorem dX9_odds_110 : decode cX9_odds 110 = .ok (.iload_n 1, 1) := by decide +kernel
theorem dX9_odds_111 : decode cX9_odds 111 = .ok (.iaload, 1) := by decide +kernel
theorem dX9_odds_112 : decode cX9_odds 112 = .ok (.imul, 1) := by decide +kernel
theorem dX9_odds_113 : decode cX9_odds 113 = .ok (.isub, 1) := by decide +kernel
theorem dX9_odds_114 : decode cX9_odds 114 = .ok (.ifCond .ge 25, 3) := by decide +kernel
theorem dX9_odds_117 : decode cX9_odds 117 = .ok (.bipush 10, 2) := by decide +kernel
theorem dX9_odds_119 : decode cX9_odds 119 = .ok (.iload_n 3, 1) := by decide +kernel
theorem dX9_odds_120 : decode cX9_odds 120 = .ok (.isub, 1) := by decide +kernel
theorem dX9_odds_121 : decode cX9_odds 121 = .ok (.iload 8, 2) := by decide +kernel
theorem dX9_odds_123 : decode cX9_odds 123 = .ok (.invokestatic 195, 3) := by decide +kernel
theorem dX9_odds_126 : decode cX9_odds 126 = .ok (.iload_n 3, 1) := by decide +kernel
theorem dX9_odds_127 : decode cX9_odds 127 = .ok (.iload 4, 2) := by decide +kernel
theorem dX9_odds_129 : decode cX9_odds 129 = .ok (.iload 8, 2) := by decide +kernel
theorem dX9_odds_131 : decode cX9_odds 131 = .ok (.isub, 1) := by decide +kernel
theorem dX9_odds_132 : decode cX9_odds 132 = .ok (.invokestatic 195, 3) := by decide +kernel
theorem dX9_odds_135 : decode cX9_odds 135 = .ok (.imul, 1) := by decide +kernel
theorem dX9_odds_136 : decode cX9_odds 136 = .ok (.goto 4, 3) := by decide +kernel
theorem dX9_odds_139 : decode cX9_odds 139 = .ok (.iconst 0, 1) := by decide +kernel
theorem dX9_odds_140 : decode cX9_odds 140 = .ok (.iadd, 1) := by decide +kernel
theorem dX9_odds_141 : decode cX9_odds 141 = .ok (.istore 6, 2) := by decide +kernel
theorem dX9_odds_143 : decode cX9_odds 143 = .ok (.iinc 7 1, 3) := by decide +kernel
theorem dX9_odds_146 : decode cX9_odds 146 = .ok (.goto (-75), 3) := by decide +kernel
theorem dX9_odds_149 : decode cX9_odds 149 = .ok (.bipush 10, 2) := by decide +kernel
theorem dX9_odds_151 : decode cX9_odds 151 = .ok (.iload 4, 2) := by decide +kernel
theorem dX9_odds_153 : decode cX9_odds 153 = .ok (.invokestatic 195, 3) := by decide +kernel
theorem dX9_odds_156 : decode cX9_odds 156 = .ok (.istore 7, 2) := by decide +kernel
theorem dX9_odds_158 : decode cX9_odds 158 = .ok (.iload 6, 2) := by decide +kernel
theorem dX9_odds_160 : decode cX9_odds 160 = .ok (.iload 7, 2) := by decide +kernel
theorem dX9_odds_162 : decode cX9_odds 162 = .ok (.invokestatic 198, 3) := by decide +kernel
theorem dX9_odds_165 : decode cX9_odds 165 = .ok (.istore 8, 2) := by decide +kernel
theorem dX9_odds_167 : decode cX9_odds 167 = .ok (.iload 5, 2) := by decide +kernel
theorem dX9_odds_169 : decode cX9_odds 169 = .ok (.ifCond .ne 11, 3) := by decide +kernel
theorem dX9_odds_172 : decode cX9_odds 172 = .ok (.iload 6, 2) := by decide +kernel
theorem dX9_odds_174 : decode cX9_odds 174 = .ok (.iload 8, 2) := by decide +kernel
theorem dX9_odds_176 : decode cX9_odds 176 = .ok (.idiv, 1) := by decide +kernel
theorem dX9_odds_177 : decode cX9_odds 177 = .ok (.goto 8, 3) := by decide +kernel
theorem dX9_odds_180 : decode cX9_odds 180 = .ok (.iload 7, 2) := by decide +kernel
theorem dX9_odds_182 : decode cX9_odds 182 = .ok (.iload 8, 2) := by decide +kernel
theorem dX9_odds_184 : decode cX9_odds 184 = .ok (.idiv, 1) := by decide +kernel
theorem dX9_odds_185 : decode cX9_odds 185 = .ok (.ireturn, 1) := by decide +kernel
theorem dX9_rate_0 : decode cX9_rate 0 = .ok (.aload_n 0, 1) := by decide +kernel
theorem dX9_rate_1 : decode cX9_rate 1 = .ok (.iconst 0, 1) := by decide +kernel
theorem dX9_rate_2 : decode cX9_rate 2 = .ok (.putfield 74, 3) := by decide +kernel
theorem dX9_rate_5 : decode cX9_rate 5 = .ok (.iload_n 1, 1) := by decide +kernel
theorem dX9_rate_6 : decode cX9_rate 6 = .ok (.iconst 0, 1) := by decide +kernel
theorem dX9_rate_7 : decode cX9_rate 7 = .ok (.iconst 5, 1) := by decide +kernel
theorem dX9_rate_8 : decode cX9_rate 8 = .ok (.invokestatic 78, 3) := by decide +kernel
theorem dX9_rate_11 : decode cX9_rate 11 = .ok (.ifCond .eq 11, 3) := by decide +kernel
theorem dX9_rate_14 : decode cX9_rate 14 = .ok (.aload_n 0, 1) := by decide +kernel
theorem dX9_rate_15 : decode cX9_rate 15 = .ok (.iload_n 2, 1) := by decide +kernel
theorem dX9_rate_16 : decode cX9_rate 16 = .ok (.invokevirtual 142, 3) := by decide +kernel
theorem dX9_rate_19 : decode cX9_rate 19 = .ok (.ifCond .ne 6, 3) := by decide +kernel
theorem dX9_rate_22 : decode cX9_rate 22 = .ok (.ldc 145, 2) := by decide +kernel
theorem dX9_rate_24 : decode cX9_rate 24 = .ok (.ireturn, 1) := by decide +kernel
theorem dX9_rate_25 : decode cX9_rate 25 = .ok (.aload_n 0, 1) := by decide +kernel
theorem dX9_rate_26 : decode cX9_rate 26 = .ok (.getfield 34, 3) := by decide +kernel
theorem dX9_rate_29 : decode cX9_rate 29 = .ok (.iconst 5, 1) := by decide +kernel
theorem dX9_rate_30 : decode cX9_rate 30 = .ok (.iload_n 2, 1) := by decide +kernel
theorem dX9_rate_31 : decode cX9_rate 31 = .ok (.iadd, 1) := by decide +kernel
theorem dX9_rate_32 : decode cX9_rate 32 = .ok (.iaload, 1) := by decide +kernel
theorem dX9_rate_33 : decode cX9_rate 33 = .ok (.istore_n 3, 1) := by decide +kernel
theorem dX9_rate_34 : decode cX9_rate 34 = .ok (.iload_n 3, 1) := by decide +kernel
theorem dX9_rate_35 : decode cX9_rate 35 = .ok (.aload_n 0, 1) := by decide +kernel
theorem dX9_rate_36 : decode cX9_rate 36 = .ok (.getfield 22, 3) := by decide +kernel
theorem dX9_rate_39 : decode cX9_rate 39 = .ok (.iload_n 2, 1) := by decide +kernel
theorem dX9_rate_40 : decode cX9_rate 40 = .ok (.iaload, 1) := by decide +kernel
theorem dX9_rate_41 : decode cX9_rate 41 = .ok (.iadd, 1) := by decide +kernel
theorem dX9_rate_42 : decode cX9_rate 42 = .ok (.istore 4, 2) := by decide +kernel
theorem dX9_rate_44 : decode cX9_rate 44 = .ok (.iload_n 3, 1) := by decide +kernel
theorem dX9_rate_45 : decode cX9_rate 45 = .ok (.aload_n 0, 1) := by decide +kernel
theorem dX9_rate_46 : decode cX9_rate 46 = .ok (.getfield 19, 3) := by decide +kernel
theorem dX9_rate_49 : decode cX9_rate 49 = .ok (.iload_n 2, 1) := by decide +kernel
theorem dX9_rate_50 : decode cX9_rate 50 = .ok (.iaload, 1) := by decide +kernel
theorem dX9_rate_51 : decode cX9_rate 51 = .ok (.isub, 1) := by decide +kernel
theorem dX9_rate_52 : decode cX9_rate 52 = .ok (.istore 5, 2) := by decide +kernel
theorem dX9_rate_54 : decode cX9_rate 54 = .ok (.aload_n 0, 1) := by decide +kernel
theorem dX9_rate_55 : decode cX9_rate 55 = .ok (.dup, 1) := by decide +kernel
theorem dX9_rate_56 : decode cX9_rate 56 = .ok (.getfield 201, 3) := by decide +kernel
theorem dX9_rate_59 : decode cX9_rate 59 = .ok (.iload_n 1, 1) := by decide +kernel
theorem dX9_rate_60 : decode cX9_rate 60 = .ok (.ifCond .ne 7, 3) := by decide +kernel
theorem dX9_rate_63 : decode cX9_rate 63 = .ok (.lconst 1, 1) := by decide +kernel
theorem dX9_rate_64 : decode cX9_rate 64 = .ok (.goto 50, 3) := by decide +kernel
theorem dX9_rate_67 : decode cX9_rate 67 = .ok (.iload_n 1, 1) := by decide +kernel
theorem dX9_rate_68 : decode cX9_rate 68 = .ok (.iconst 1, 1) := by decide +kernel
theorem dX9_rate_69 : decode cX9_rate 69 = .ok (.if_icmp .ne 9, 3) := by decide +kernel
theorem dX9_rate_72 : decode cX9_rate 72 = .ok (.ldc2_w 205, 3) := by decide +kernel
theorem dX9_rate_75 : decode cX9_rate 75 = .ok (.goto 39, 3) := by decide +kernel
theorem dX9_rate_78 : decode cX9_rate 78 = .ok (.iload_n 1, 1) := by decide +kernel
theorem dX9_rate_79 : decode cX9_rate 79 = .ok (.iconst 2, 1) := by decide +kernel
theorem dX9_rate_80 : decode cX9_rate 80 = .ok (.if_icmp .ne 9, 3) := by decide +kernel
theorem dX9_rate_83 : decode cX9_rate 83 = .ok (.ldc2_w 207, 3) := by decide +kernel
theorem dX9_rate_86 : decode cX9_rate 86 = .ok (.goto 28, 3) := by decide +kernel
theorem dX9_rate_89 : decode cX9_rate 89 = .ok (.iload_n 1, 1) := by decide +kernel
theorem dX9_rate_90 : decode cX9_rate 90 = .ok (.iconst 3, 1) := by decide +kernel
theorem dX9_rate_91 : decode cX9_rate 91 = .ok (.if_icmp .ne 9, 3) := by decide +kernel
theorem dX9_rate_94 : decode cX9_rate 94 = .ok (.ldc2_w 209, 3) := by decide +kernel
theorem dX9_rate_97 : decode cX9_rate 97 = .ok (.goto 17, 3) := by decide +kernel
theorem dX9_rate_100 : decode cX9_rate 100 = .ok (.iload_n 1, 1) := by decide +kernel
theorem dX9_rate_101 : decode cX9_rate 101 = .ok (.iconst 4, 1) := by decide +kernel
theorem dX9_rate_102 : decode cX9_rate 102 = .ok (.if_icmp .ne 9, 3) := by decide +kernel
theorem dX9_rate_105 : decode cX9_rate 105 = .ok (.ldc2_w 211, 3) := by decide +kernel
theorem dX9_rate_108 : decode cX9_rate 108 = .ok (.goto 6, 3) := by decide +kernel
theorem dX9_rate_111 : decode cX9_rate 111 = .ok (.ldc2_w 213, 3) := by decide +kernel
theorem dX9_rate_114 : decode cX9_rate 114 = .ok (.ladd, 1) := by decide +kernel
theorem dX9_rate_115 : decode cX9_rate 115 = .ok (.putfield 201, 3) := by decide +kernel
theorem dX9_rate_118 : decode cX9_rate 118 = .ok (.iload_n 1, 1) := by decide +kernel
theorem dX9_rate_119 : decode cX9_rate 119 = .ok (.ifCond .ne 7, 3) := by decide +kernel
theorem dX9_rate_122 : decode cX9_rate 122 = .ok (.iload_n 3, 1) := by decide +kernel
theorem dX9_rate_123 : decode cX9_rate 123 = .ok (.goto 53, 3) := by decide +kernel
theorem dX9_rate_126 : decode cX9_rate 126 = .ok (.iload_n 1, 1) := by decide +kernel
theorem dX9_rate_127 : decode cX9_rate 127 = .ok (.iconst 1, 1) := by decide +kernel
theorem dX9_rate_128 : decode cX9_rate 128 = .ok (.if_icmp .ne 8, 3) := by decide +kernel
theorem dX9_rate_131 : decode cX9_rate 131 = .ok (.iload 4, 2) := by decide +kernel
theorem dX9_rate_133 : decode cX9_rate 133 = .ok (.goto 43, 3) := by decide +kernel
theorem dX9_rate_136 : decode cX9_rate 136 = .ok (.iload_n 1, 1) := by decide +kernel
theorem dX9_rate_137 : decode cX9_rate 137 = .ok (.iconst 2, 1) := by decide +kernel
theorem dX9_rate_138 : decode cX9_rate 138 = .ok (.if_icmp .ne 8, 3) := by decide +kernel
theorem dX9_rate_141 : decode cX9_rate 141 = .ok (.iload 5, 2) := by decide +kernel
theorem dX9_rate_143 : decode cX9_rate 143 = .ok (.goto 33, 3) := by decide +kernel
theorem dX9_rate_146 : decode cX9_rate 146 = .ok (.iload_n 1, 1) := by decide +kernel
theorem dX9_rate_147 : decode cX9_rate 147 = .ok (.iconst 3, 1) := by decide +kernel
theorem dX9_rate_148 : decode cX9_rate 148 = .ok (.if_icmp .ne 10, 3) := by decide +kernel
theorem dX9_rate_151 : decode cX9_rate 151 = .ok (.iconst 2, 1) := by decide +kernel
theorem dX9_rate_152 : decode cX9_rate 152 = .ok (.iload 4, 2) := by decide +kernel
theorem dX9_rate_154 : decode cX9_rate 154 = .ok (.imul, 1) := by decide +kernel
theorem dX9_rate_155 : decode cX9_rate 155 = .ok (.goto 21, 3) := by decide +kernel
theorem dX9_rate_158 : decode cX9_rate 158 = .ok (.iload_n 1, 1) := by decide +kernel
theorem dX9_rate_159 : decode cX9_rate 159 = .ok (.iconst 4, 1) := by decide +kernel
theorem dX9_rate_160 : decode cX9_rate 160 = .ok (.if_icmp .ne 10, 3) := by decide +kernel
theorem dX9_rate_163 : decode cX9_rate 163 = .ok (.iload 5, 2) := by decide +kernel
theorem dX9_rate_165 : decode cX9_rate 165 = .ok (.iload_n 2, 1) := by decide +kernel
theorem dX9_rate_166 : decode cX9_rate 166 = .ok (.iadd, 1) := by decide +kernel
theorem dX9_rate_167 : decode cX9_rate 167 = .ok (.goto 9, 3) := by decide +kernel
theorem dX9_rate_170 : decode cX9_rate 170 = .ok (.iload_n 3, 1) := by decide +kernel
theorem dX9_rate_171 : decode cX9_rate 171 = .ok (.aload_n 0, 1) := by decide +kernel
theorem dX9_rate_172 : decode cX9_rate 172 = .ok (.invokevirtual 152, 3) := by decide +kernel
theorem dX9_rate_175 : decode cX9_rate 175 = .ok (.iadd, 1) := by decide +kernel
theorem dX9_rate_176 : decode cX9_rate 176 = .ok (.ireturn, 1) := by decide +kernel
theorem dX9_keep_0 : decode cX9_keep 0 = .ok (.aload_n 0, 1) := by decide +kernel
theorem dX9_keep_1 : decode cX9_keep 1 = .ok (.iconst 0, 1) := by decide +kernel
theorem dX9_keep_2 : decode cX9_keep 2 = .ok (.putfield 74, 3) := by decide +kernel
theorem dX9_keep_5 : decode cX9_keep 5 = .ok (.iload_n 1, 1) := by decide +kernel
theorem dX9_keep_6 : decode cX9_keep 6 = .ok (.iconst 0, 1) := by decide +kernel
theorem dX9_keep_7 : decode cX9_keep 7 = .ok (.iconst 1, 1) := by decide +kernel
theorem dX9_keep_8 : decode cX9_keep 8 = .ok (.invokestatic 78, 3) := by decide +kernel
theorem dX9_keep_11 : decode cX9_keep 11 = .ok (.ifCond .ne 5, 3) := by decide +kernel
theorem dX9_keep_14 : decode cX9_keep 14 = .ok (.iconst (-1), 1) := by decide +kernel
theorem dX9_keep_15 : decode cX9_keep 15 = .ok (.ireturn, 1) := by decide +kernel
theorem dX9_keep_16 : decode cX9_keep 16 = .ok (.iconst 0, 1) := by decide +kernel
theorem dX9_keep_17 : decode cX9_keep 17 = .ok (.istore_n 2, 1) := by decide +kernel
theorem dX9_keep_18 : decode cX9_keep 18 = .ok (.iload_n 2, 1) := by decide +kernel
theorem dX9_keep_19 : decode cX9_keep 19 = .ok (.bipush 15, 2) := by decide +kernel
theorem dX9_keep_21 : decode cX9_keep 21 = .ok (.if_icmp .ge 26, 3) := by decide +kernel
theorem dX9_keep_24 : decode cX9_keep 24 = .ok (.aload_n 0, 1) := by decide +kernel
theorem dX9_keep_25 : decode cX9_keep 25 = .ok (.getfield 37, 3) := by decide +kernel
theorem dX9_keep_28 : decode cX9_keep 28 = .ok (.bipush 15, 2) := by decide +kernel
theorem dX9_keep_30 : decode cX9_keep 30 = .ok (.iload_n 1, 1) := by decide +kernel
theorem dX9_keep_31 : decode cX9_keep 31 = .ok (.imul, 1) := by decide +kernel
theorem dX9_keep_32 : decode cX9_keep 32 = .ok (.iload_n 2, 1) := by decide +kernel
theorem dX9_keep_33 : decode cX9_keep 33 = .ok (.iadd, 1) := by decide +kernel
theorem dX9_keep_34 : decode cX9_keep 34 = .ok (.aload_n 0, 1) := by decide +kernel
theorem dX9_keep_35 : decode cX9_keep 35 = .ok (.getfield 34, 3) := by decide +kernel
theorem dX9_keep_38 : decode cX9_keep 38 = .ok (.iload_n 2, 1) := by decide +kernel
theorem dX9_keep_39 : decode cX9_keep 39 = .ok (.iaload, 1) := by decide +kernel
theorem dX9_keep_40 : decode cX9_keep 40 = .ok (.iastore, 1) := by decide +kernel
theorem dX9_keep_41 : decode cX9_keep 41 = .ok (.iinc 2 1, 3) := by decide +kernel
theorem dX9_keep_44 : decode cX9_keep 44 = .ok (.goto (-26), 3) := by decide +kernel
theorem dX9_keep_47 : decode cX9_keep 47 = .ok (.aload_n 0, 1) := by decide +kernel
theorem dX9_keep_48 : decode cX9_keep 48 = .ok (.getfield 40, 3) := by decide +kernel
theorem dX9_keep_51 : decode cX9_keep 51 = .ok (.iload_n 1, 1) := by decide +kernel
theorem dX9_keep_52 : decode cX9_keep 52 = .ok (.iconst 1, 1) := by decide +kernel
theorem dX9_keep_53 : decode cX9_keep 53 = .ok (.bastore, 1) := by decide +kernel
theorem dX9_keep_54 : decode cX9_keep 54 = .ok (.aload_n 0, 1) := by decide +kernel
theorem dX9_keep_55 : decode cX9_keep 55 = .ok (.getfield 34, 3) := by decide +kernel
theorem dX9_keep_58 : decode cX9_keep 58 = .ok (.iconst 2, 1) := by decide +kernel
theorem dX9_keep_59 : decode cX9_keep 59 = .ok (.iaload, 1) := by decide +kernel
theorem dX9_keep_60 : decode cX9_keep 60 = .ok (.ireturn, 1) := by decide +kernel
theorem dX9_back_0 : decode cX9_back 0 = .ok (.aload_n 0, 1) := by decide +kernel
theorem dX9_back_1 : decode cX9_back 1 = .ok (.iconst 0, 1) := by decide +kernel
theorem dX9_back_2 : decode cX9_back 2 = .ok (.putfield 74, 3) := by decide +kernel
theorem dX9_back_5 : decode cX9_back 5 = .ok (.iload_n 1, 1) := by decide +kernel
theorem dX9_back_6 : decode cX9_back 6 = .ok (.iconst 0, 1) := by decide +kernel
theorem dX9_back_7 : decode cX9_back 7 = .ok (.iconst 1, 1) := by decide +kernel
theorem dX9_back_8 : decode cX9_back 8 = .ok (.invokestatic 78, 3) := by decide +kernel
theorem dX9_back_11 : decode cX9_back 11 = .ok (.ifCond .ne 5, 3) := by decide +kernel
theorem dX9_back_14 : decode cX9_back 14 = .ok (.iconst (-1), 1) := by decide +kernel
theorem dX9_back_15 : decode cX9_back 15 = .ok (.ireturn, 1) := by decide +kernel
theorem dX9_back_16 : decode cX9_back 16 = .ok (.aload_n 0, 1) := by decide +kernel
theorem dX9_back_17 : decode cX9_back 17 = .ok (.getfield 40, 3) := by decide +kernel
theorem dX9_back_20 : decode cX9_back 20 = .ok (.iload_n 1, 1) := by decide +kernel
theorem dX9_back_21 : decode cX9_back 21 = .ok (.baload, 1) := by decide +kernel
theorem dX9_back_22 : decode cX9_back 22 = .ok (.ifCond .ne 6, 3) := by decide +kernel
theorem dX9_back_25 : decode cX9_back 25 = .ok (.bipush (-2), 2) := by decide +kernel
theorem dX9_back_27 : decode cX9_back 27 = .ok (.ireturn, 1) := by decide +kernel
theorem dX9_back_28 : decode cX9_back 28 = .ok (.iconst 0, 1) := by decide +kernel
theorem dX9_back_29 : decode cX9_back 29 = .ok (.istore_n 2, 1) := by decide +kernel
theorem dX9_back_30 : decode cX9_back 30 = .ok (.iload_n 2, 1) := by decide +kernel
theorem dX9_back_31 : decode cX9_back 31 = .ok (.bipush 15, 2) := by decide +kernel
theorem dX9_back_33 : decode cX9_back 33 = .ok (.if_icmp .ge 26, 3) := by decide +kernel
theorem dX9_back_36 : decode cX9_back 36 = .ok (.aload_n 0, 1) := by decide +kernel
theorem dX9_back_37 : decode cX9_back 37 = .ok (.getfield 34, 3) := by decide +kernel
theorem dX9_back_40 : decode cX9_back 40 = .ok (.iload_n 2, 1) := by decide +kernel
theorem dX9_back_41 : decode cX9_back 41 = .ok (.aload_n 0, 1) := by decide +kernel
theorem dX9_back_42 : decode cX9_back 42 = .ok (.getfield 37, 3) := by decide +kernel
theorem dX9_back_45 : decode cX9_back 45 = .ok (.bipush 15, 2) := by decide +kernel
theorem dX9_back_47 : decode cX9_back 47 = .ok (.iload_n 1, 1) := by decide +kernel
theorem dX9_back_48 : decode cX9_back 48 = .ok (.imul, 1) := by decide +kernel
theorem dX9_back_49 : decode cX9_back 49 = .ok (.iload_n 2, 1) := by decide +kernel
theorem dX9_back_50 : decode cX9_back 50 = .ok (.iadd, 1) := by decide +kernel
theorem dX9_back_51 : decode cX9_back 51 = .ok (.iaload, 1) := by decide +kernel
theorem dX9_back_52 : decode cX9_back 52 = .ok (.iastore, 1) := by decide +kernel
theorem dX9_back_53 : decode cX9_back 53 = .ok (.iinc 2 1, 3) := by decide +kernel
theorem dX9_back_56 : decode cX9_back 56 = .ok (.goto (-26), 3) := by decide +kernel
theorem dX9_back_59 : decode cX9_back 59 = .ok (.aload_n 0, 1) := by decide +kernel
theorem dX9_back_60 : decode cX9_back 60 = .ok (.iconst 0, 1) := by decide +kernel
theorem dX9_back_61 : decode cX9_back 61 = .ok (.putfield 139, 3) := by decide +kernel
theorem dX9_back_64 : decode cX9_back 64 = .ok (.aload_n 0, 1) := by decide +kernel
theorem dX9_back_65 : decode cX9_back 65 = .ok (.getfield 34, 3) := by decide +kernel
theorem dX9_back_68 : decode cX9_back 68 = .ok (.iconst 2, 1) := by decide +kernel
theorem dX9_back_69 : decode cX9_back 69 = .ok (.iaload, 1) := by decide +kernel
theorem dX9_back_70 : decode cX9_back 70 = .ok (.ireturn, 1) := by decide +kernel
theorem dX9_count_0 : decode cX9_count 0 = .ok (.aload_n 0, 1) := by decide +kernel
theorem dX9_count_1 : decode cX9_count 1 = .ok (.iconst 0, 1) := by decide +kernel
theorem dX9_count_2 : decode cX9_count 2 = .ok (.putfield 74, 3) := by decide +kernel
theorem dX9_count_5 : decode cX9_count 5 = .ok (.iload_n 1, 1) := by decide +kernel
theorem dX9_count_6 : decode cX9_count 6 = .ok (.iconst 0, 1) := by decide +kernel
theorem dX9_count_7 : decode cX9_count 7 = .ok (.iconst 5, 1) := by decide +kernel
theorem dX9_count_8 : decode cX9_count 8 = .ok (.invokestatic 78, 3) := by decide +kernel
theorem dX9_count_11 : decode cX9_count 11 = .ok (.ifCond .eq 12, 3) := by decide +kernel
theorem dX9_count_14 : decode cX9_count 14 = .ok (.aload_n 0, 1) := by decide +kernel
theorem dX9_count_15 : decode cX9_count 15 = .ok (.getfield 13, 3) := by decide +kernel
theorem dX9_count_18 : decode cX9_count 18 = .ok (.iload_n 1, 1) := by decide +kernel
theorem dX9_count_19 : decode cX9_count 19 = .ok (.iaload, 1) := by decide +kernel
theorem dX9_count_20 : decode cX9_count 20 = .ok (.goto 30, 3) := by decide +kernel
theorem dX9_count_23 : decode cX9_count 23 = .ok (.iload_n 1, 1) := by decide +kernel
theorem dX9_count_24 : decode cX9_count 24 = .ok (.bipush 6, 2) := by decide +kernel
theorem dX9_count_26 : decode cX9_count 26 = .ok (.if_icmp .ne 10, 3) := by decide +kernel
theorem dX9_count_29 : decode cX9_count 29 = .ok (.aload_n 0, 1) := by decide +kernel
theorem dX9_count_30 : decode cX9_count 30 = .ok (.getfield 136, 3) := by decide +kernel
theorem dX9_count_33 : decode cX9_count 33 = .ok (.goto 17, 3) := by decide +kernel
theorem dX9_count_36 : decode cX9_count 36 = .ok (.iload_n 1, 1) := by decide +kernel
theorem dX9_count_37 : decode cX9_count 37 = .ok (.bipush 7, 2) := by decide +kernel
theorem dX9_count_39 : decode cX9_count 39 = .ok (.if_icmp .ne 10, 3) := by decide +kernel
theorem dX9_count_42 : decode cX9_count 42 = .ok (.aload_n 0, 1) := by decide +kernel
theorem dX9_count_43 : decode cX9_count 43 = .ok (.getfield 82, 3) := by decide +kernel
theorem dX9_count_46 : decode cX9_count 46 = .ok (.goto 4, 3) := by decide +kernel
theorem dX9_count_49 : decode cX9_count 49 = .ok (.iconst (-1), 1) := by decide +kernel
theorem dX9_count_50 : decode cX9_count 50 = .ok (.ireturn, 1) := by decide +kernel
theorem dX9_trace_0 : decode cX9_trace 0 = .ok (.aload_n 0, 1) := by decide +kernel
theorem dX9_trace_1 : decode cX9_trace 1 = .ok (.iconst 0, 1) := by decide +kernel
theorem dX9_trace_2 : decode cX9_trace 2 = .ok (.putfield 74, 3) := by decide +kernel
theorem dX9_trace_5 : decode cX9_trace 5 = .ok (.aload_n 0, 1) := by decide +kernel
theorem dX9_trace_6 : decode cX9_trace 6 = .ok (.getfield 201, 3) := by decide +kernel
theorem dX9_trace_9 : decode cX9_trace 9 = .ok (.lreturn, 1) := by decide +kernel
theorem dJ6_bitCount_0f7a4_0 : decode cJ6_bitCount_0f7a4 0 = .ok (.iload_n 0, 1) := by decide +kernel
theorem dJ6_bitCount_0f7a4_1 : decode cJ6_bitCount_0f7a4 1 = .ok (.iload_n 0, 1) := by decide +kernel
theorem dJ6_bitCount_0f7a4_2 : decode cJ6_bitCount_0f7a4 2 = .ok (.iconst 1, 1) := by decide +kernel
theorem dJ6_bitCount_0f7a4_3 : decode cJ6_bitCount_0f7a4 3 = .ok (.iushr, 1) := by decide +kernel
theorem dJ6_bitCount_0f7a4_4 : decode cJ6_bitCount_0f7a4 4 = .ok (.ldc_w 265, 3) := by decide +kernel
theorem dJ6_bitCount_0f7a4_7 : decode cJ6_bitCount_0f7a4 7 = .ok (.iand, 1) := by decide +kernel
theorem dJ6_bitCount_0f7a4_8 : decode cJ6_bitCount_0f7a4 8 = .ok (.isub, 1) := by decide +kernel
theorem dJ6_bitCount_0f7a4_9 : decode cJ6_bitCount_0f7a4 9 = .ok (.istore_n 0, 1) := by decide +kernel
theorem dJ6_bitCount_0f7a4_10 : decode cJ6_bitCount_0f7a4 10 = .ok (.iload_n 0, 1) := by decide +kernel
theorem dJ6_bitCount_0f7a4_11 : decode cJ6_bitCount_0f7a4 11 = .ok (.ldc_w 266, 3) := by decide +kernel
theorem dJ6_bitCount_0f7a4_14 : decode cJ6_bitCount_0f7a4 14 = .ok (.iand, 1) := by decide +kernel
theorem dJ6_bitCount_0f7a4_15 : decode cJ6_bitCount_0f7a4 15 = .ok (.iload_n 0, 1) := by decide +kernel
theorem dJ6_bitCount_0f7a4_16 : decode cJ6_bitCount_0f7a4 16 = .ok (.iconst 2, 1) := by decide +kernel
theorem dJ6_bitCount_0f7a4_17 : decode cJ6_bitCount_0f7a4 17 = .ok (.iushr, 1) := by decide +kernel
theorem dJ6_bitCount_0f7a4_18 : decode cJ6_bitCount_0f7a4 18 = .ok (.ldc_w 266, 3) := by decide +kernel
theorem dJ6_bitCount_0f7a4_21 : decode cJ6_bitCount_0f7a4 21 = .ok (.iand, 1) := by decide +kernel
theorem dJ6_bitCount_0f7a4_22 : decode cJ6_bitCount_0f7a4 22 = .ok (.iadd, 1) := by decide +kernel
theorem dJ6_bitCount_0f7a4_23 : decode cJ6_bitCount_0f7a4 23 = .ok (.istore_n 0, 1) := by decide +kernel
theorem dJ6_bitCount_0f7a4_24 : decode cJ6_bitCount_0f7a4 24 = .ok (.iload_n 0, 1) := by decide +kernel
theorem dJ6_bitCount_0f7a4_25 : decode cJ6_bitCount_0f7a4 25 = .ok (.iload_n 0, 1) := by decide +kernel
theorem dJ6_bitCount_0f7a4_26 : decode cJ6_bitCount_0f7a4 26 = .ok (.iconst 4, 1) := by decide +kernel
theorem dJ6_bitCount_0f7a4_27 : decode cJ6_bitCount_0f7a4 27 = .ok (.iushr, 1) := by decide +kernel
theorem dJ6_bitCount_0f7a4_28 : decode cJ6_bitCount_0f7a4 28 = .ok (.iadd, 1) := by decide +kernel
theorem dJ6_bitCount_0f7a4_29 : decode cJ6_bitCount_0f7a4 29 = .ok (.ldc_w 267, 3) := by decide +kernel
theorem dJ6_bitCount_0f7a4_32 : decode cJ6_bitCount_0f7a4 32 = .ok (.iand, 1) := by decide +kernel
theorem dJ6_bitCount_0f7a4_33 : decode cJ6_bitCount_0f7a4 33 = .ok (.istore_n 0, 1) := by decide +kernel
theorem dJ6_bitCount_0f7a4_34 : decode cJ6_bitCount_0f7a4 34 = .ok (.iload_n 0, 1) := by decide +kernel
theorem dJ6_bitCount_0f7a4_35 : decode cJ6_bitCount_0f7a4 35 = .ok (.iload_n 0, 1) := by decide +kernel
theorem dJ6_bitCount_0f7a4_36 : decode cJ6_bitCount_0f7a4 36 = .ok (.bipush 8, 2) := by decide +kernel
theorem dJ6_bitCount_0f7a4_38 : decode cJ6_bitCount_0f7a4 38 = .ok (.iushr, 1) := by decide +kernel
theorem dJ6_bitCount_0f7a4_39 : decode cJ6_bitCount_0f7a4 39 = .ok (.iadd, 1) := by decide +kernel
theorem dJ6_bitCount_0f7a4_40 : decode cJ6_bitCount_0f7a4 40 = .ok (.istore_n 0, 1) := by decide +kernel
theorem dJ6_bitCount_0f7a4_41 : decode cJ6_bitCount_0f7a4 41 = .ok (.iload_n 0, 1) := by decide +kernel
theorem dJ6_bitCount_0f7a4_42 : decode cJ6_bitCount_0f7a4 42 = .ok (.iload_n 0, 1) := by decide +kernel
theorem dJ6_bitCount_0f7a4_43 : decode cJ6_bitCount_0f7a4 43 = .ok (.bipush 16, 2) := by decide +kernel
theorem dJ6_bitCount_0f7a4_45 : decode cJ6_bitCount_0f7a4 45 = .ok (.iushr, 1) := by decide +kernel
theorem dJ6_bitCount_0f7a4_46 : decode cJ6_bitCount_0f7a4 46 = .ok (.iadd, 1) := by decide +kernel
theorem dJ6_bitCount_0f7a4_47 : decode cJ6_bitCount_0f7a4 47 = .ok (.istore_n 0, 1) := by decide +kernel
theorem dJ6_bitCount_0f7a4_48 : decode cJ6_bitCount_0f7a4 48 = .ok (.iload_n 0, 1) := by decide +kernel
theorem dJ6_bitCount_0f7a4_49 : decode cJ6_bitCount_0f7a4 49 = .ok (.bipush 63, 2) := by decide +kernel
theorem dJ6_bitCount_0f7a4_51 : decode cJ6_bitCount_0f7a4 51 = .ok (.iand, 1) := by decide +kernel
theorem dJ6_bitCount_0f7a4_52 : decode cJ6_bitCount_0f7a4 52 = .ok (.ireturn, 1) := by decide +kernel
theorem dJ9_abs_0f7a4_0 : decode cJ9_abs_0f7a4 0 = .ok (.iload_n 0, 1) := by decide +kernel
theorem dJ9_abs_0f7a4_1 : decode cJ9_abs_0f7a4 1 = .ok (.ifCond .ge 8, 3) := by decide +kernel
theorem dJ9_abs_0f7a4_4 : decode cJ9_abs_0f7a4 4 = .ok (.iload_n 0, 1) := by decide +kernel
theorem dJ9_abs_0f7a4_5 : decode cJ9_abs_0f7a4 5 = .ok (.ineg, 1) := by decide +kernel
theorem dJ9_abs_0f7a4_6 : decode cJ9_abs_0f7a4 6 = .ok (.goto 4, 3) := by decide +kernel
theorem dJ9_abs_0f7a4_9 : decode cJ9_abs_0f7a4 9 = .ok (.iload_n 0, 1) := by decide +kernel
theorem dJ9_abs_0f7a4_10 : decode cJ9_abs_0f7a4 10 = .ok (.ireturn, 1) := by decide +kernel
theorem dJ9_max_7cf53_0 : decode cJ9_max_7cf53 0 = .ok (.iload_n 0, 1) := by decide +kernel
theorem dJ9_max_7cf53_1 : decode cJ9_max_7cf53 1 = .ok (.iload_n 1, 1) := by decide +kernel
theorem dJ9_max_7cf53_2 : decode cJ9_max_7cf53 2 = .ok (.if_icmp .lt 7, 3) := by decide +kernel
theorem dJ9_max_7cf53_5 : decode cJ9_max_7cf53 5 = .ok (.iload_n 0, 1) := by decide +kernel
theorem dJ9_max_7cf53_6 : decode cJ9_max_7cf53 6 = .ok (.goto 4, 3) := by decide +kernel
theorem dJ9_max_7cf53_9 : decode cJ9_max_7cf53 9 = .ok (.iload_n 1, 1) := by decide +kernel
theorem dJ9_max_7cf53_10 : decode cJ9_max_7cf53 10 = .ok (.ireturn, 1) := by decide +kernel
theorem dJ9_min_7cf53_0 : decode cJ9_min_7cf53 0 = .ok (.iload_n 0, 1) := by decide +kernel
theorem dJ9_min_7cf53_1 : decode cJ9_min_7cf53 1 = .ok (.iload_n 1, 1) := by decide +kernel
theorem dJ9_min_7cf53_2 : decode cJ9_min_7cf53 2 = .ok (.if_icmp .gt 7, 3) := by decide +kernel
theorem dJ9_min_7cf53_5 : decode cJ9_min_7cf53 5 = .ok (.iload_n 0, 1) := by decide +kernel
theorem dJ9_min_7cf53_6 : decode cJ9_min_7cf53 6 = .ok (.goto 4, 3) := by decide +kernel
theorem dJ9_min_7cf53_9 : decode cJ9_min_7cf53 9 = .ok (.iload_n 1, 1) := by decide +kernel
theorem dJ9_min_7cf53_10 : decode cJ9_min_7cf53 10 = .ok (.ireturn, 1) := by decide +kernel
theorem dJ7_fill_53178_0 : decode cJ7_fill_53178 0 = .ok (.iconst 0, 1) := by decide +kernel
theorem dJ7_fill_53178_1 : decode cJ7_fill_53178 1 = .ok (.istore_n 2, 1) := by decide +kernel
theorem dJ7_fill_53178_2 : decode cJ7_fill_53178 2 = .ok (.aload_n 0, 1) := by decide +kernel
theorem dJ7_fill_53178_3 : decode cJ7_fill_53178 3 = .ok (.arraylength, 1) := by decide +kernel
theorem dJ7_fill_53178_4 : decode cJ7_fill_53178 4 = .ok (.istore_n 3, 1) := by decide +kernel
theorem dJ7_fill_53178_5 : decode cJ7_fill_53178 5 = .ok (.iload_n 2, 1) := by decide +kernel
theorem dJ7_fill_53178_6 : decode cJ7_fill_53178 6 = .ok (.iload_n 3, 1) := by decide +kernel
theorem dJ7_fill_53178_7 : decode cJ7_fill_53178 7 = .ok (.if_icmp .ge 13, 3) := by decide +kernel
theorem dJ7_fill_53178_10 : decode cJ7_fill_53178 10 = .ok (.aload_n 0, 1) := by decide +kernel
theorem dJ7_fill_53178_11 : decode cJ7_fill_53178 11 = .ok (.iload_n 2, 1) := by decide +kernel
theorem dJ7_fill_53178_12 : decode cJ7_fill_53178 12 = .ok (.iload_n 1, 1) := by decide +kernel
theorem dJ7_fill_53178_13 : decode cJ7_fill_53178 13 = .ok (.iastore, 1) := by decide +kernel
theorem dJ7_fill_53178_14 : decode cJ7_fill_53178 14 = .ok (.iinc 2 1, 3) := by decide +kernel
theorem dJ7_fill_53178_17 : decode cJ7_fill_53178 17 = .ok (.goto (-12), 3) := by decide +kernel
theorem dJ7_fill_53178_20 : decode cJ7_fill_53178 20 = .ok (.return_, 1) := by decide +kernel
theorem dL_law_0 : decode cL_law 0 = .ok (.new 7, 3) := by decide +kernel
theorem dL_law_3 : decode cL_law 3 = .ok (.dup, 1) := by decide +kernel
theorem dL_law_4 : decode cL_law 4 = .ok (.invokespecial 9, 3) := by decide +kernel
theorem dL_law_7 : decode cL_law 7 = .ok (.astore_n 1, 1) := by decide +kernel
theorem dL_law_8 : decode cL_law 8 = .ok (.new 10, 3) := by decide +kernel
theorem dL_law_11 : decode cL_law 11 = .ok (.dup, 1) := by decide +kernel
theorem dL_law_12 : decode cL_law 12 = .ok (.invokespecial 12, 3) := by decide +kernel
theorem dL_law_15 : decode cL_law 15 = .ok (.astore_n 2, 1) := by decide +kernel
theorem dL_law_16 : decode cL_law 16 = .ok (.iconst 0, 1) := by decide +kernel
theorem dL_law_17 : decode cL_law 17 = .ok (.istore_n 3, 1) := by decide +kernel
theorem dL_law_18 : decode cL_law 18 = .ok (.iload_n 3, 1) := by decide +kernel
theorem dL_law_19 : decode cL_law 19 = .ok (.aload_n 0, 1) := by decide +kernel
theorem dL_law_20 : decode cL_law 20 = .ok (.arraylength, 1) := by decide +kernel
theorem dL_law_21 : decode cL_law 21 = .ok (.bipush 6, 2) := by decide +kernel
theorem dL_law_23 : decode cL_law 23 = .ok (.isub, 1) := by decide +kernel
theorem dL_law_24 : decode cL_law 24 = .ok (.if_icmp .gt 760, 3) := by decide +kernel
theorem dL_law_27 : decode cL_law 27 = .ok (.aload_n 0, 1) := by decide +kernel
theorem dL_law_28 : decode cL_law 28 = .ok (.iload_n 3, 1) := by decide +kernel
theorem dL_law_29 : decode cL_law 29 = .ok (.iaload, 1) := by decide +kernel
theorem dL_law_30 : decode cL_law 30 = .ok (.bipush 31, 2) := by decide +kernel
theorem dL_law_32 : decode cL_law 32 = .ok (.iand, 1) := by decide +kernel
theorem dL_law_33 : decode cL_law 33 = .ok (.tableswitch 745 0 26 #[123, 146, 159, 172, 205, 238, 261, 284, 307, 330, 353, 366, 399, 412, 435, 448, 461, 474, 507, 520, 533, 566, 629, 662, 685, 708, 731], 123) := by decide +kernel
theorem dL_law_156 : decode cL_law 156 = .ok (.aload_n 1, 1) := by decide +kernel
theorem dL_law_157 : decode cL_law 157 = .ok (.aload_n 0, 1) := by decide +kernel
theorem dL_law_158 : decode cL_law 158 = .ok (.iload_n 3, 1) := by decide +kernel
theorem dL_law_159 : decode cL_law 159 = .ok (.iconst 1, 1) := by decide +kernel
theorem dL_law_160 : decode cL_law 160 = .ok (.iadd, 1) := by decide +kernel
theorem dL_law_161 : decode cL_law 161 = .ok (.iaload, 1) := by decide +kernel
theorem dL_law_162 : decode cL_law 162 = .ok (.invokevirtual 13, 3) := by decide +kernel
theorem dL_law_165 : decode cL_law 165 = .ok (.aload_n 2, 1) := by decide +kernel
theorem dL_law_166 : decode cL_law 166 = .ok (.aload_n 0, 1) := by decide +kernel
theorem dL_law_167 : decode cL_law 167 = .ok (.iload_n 3, 1) := by decide +kernel
theorem dL_law_168 : decode cL_law 168 = .ok (.iconst 1, 1) := by decide +kernel
theorem dL_law_169 : decode cL_law 169 = .ok (.iadd, 1) := by decide +kernel
theorem dL_law_170 : decode cL_law 170 = .ok (.iaload, 1) := by decide +kernel
theorem dL_law_171 : decode cL_law 171 = .ok (.invokevirtual 17, 3) := by decide +kernel
theorem dL_law_174 : decode cL_law 174 = .ok (.if_icmp .eq 604, 3) := by decide +kernel
theorem dL_law_177 : decode cL_law 177 = .ok (.iconst 0, 1) := by decide +kernel
theorem dL_law_178 : decode cL_law 178 = .ok (.ireturn, 1) := by decide +kernel
theorem dL_law_179 : decode cL_law 179 = .ok (.aload_n 1, 1) := by decide +kernel
theorem dL_law_180 : decode cL_law 180 = .ok (.invokevirtual 18, 3) := by decide +kernel
theorem dL_law_183 : decode cL_law 183 = .ok (.aload_n 2, 1) := by decide +kernel
theorem dL_law_184 : decode cL_law 184 = .ok (.invokevirtual 22, 3) := by decide +kernel
theorem dL_law_187 : decode cL_law 187 = .ok (.if_icmp .eq 591, 3) := by decide +kernel
theorem dL_law_190 : decode cL_law 190 = .ok (.iconst 0, 1) := by decide +kernel
theorem dL_law_191 : decode cL_law 191 = .ok (.ireturn, 1) := by decide +kernel
theorem dL_law_192 : decode cL_law 192 = .ok (.aload_n 1, 1) := by decide +kernel
theorem dL_law_193 : decode cL_law 193 = .ok (.invokevirtual 23, 3) := by decide +kernel
theorem dL_law_196 : decode cL_law 196 = .ok (.aload_n 2, 1) := by decide +kernel
theorem dL_law_197 : decode cL_law 197 = .ok (.invokevirtual 26, 3) := by decide +kernel
theorem dL_law_200 : decode cL_law 200 = .ok (.if_icmp .eq 578, 3) := by decide +kernel
theorem dL_law_203 : decode cL_law 203 = .ok (.iconst 0, 1) := by decide +kernel
theorem dL_law_204 : decode cL_law 204 = .ok (.ireturn, 1) := by decide +kernel
theorem dL_law_205 : decode cL_law 205 = .ok (.aload_n 1, 1) := by decide +kernel
theorem dL_law_206 : decode cL_law 206 = .ok (.aload_n 0, 1) := by decide +kernel
theorem dL_law_207 : decode cL_law 207 = .ok (.iload_n 3, 1) := by decide +kernel
theorem dL_law_208 : decode cL_law 208 = .ok (.iconst 1, 1) := by decide +kernel
theorem dL_law_209 : decode cL_law 209 = .ok (.iadd, 1) := by decide +kernel
theorem dL_law_210 : decode cL_law 210 = .ok (.iaload, 1) := by decide +kernel
theorem dL_law_211 : decode cL_law 211 = .ok (.aload_n 0, 1) := by decide +kernel
theorem dL_law_212 : decode cL_law 212 = .ok (.iload_n 3, 1) := by decide +kernel
theorem dL_law_213 : decode cL_law 213 = .ok (.iconst 2, 1) := by decide +kernel
theorem dL_law_214 : decode cL_law 214 = .ok (.iadd, 1) := by decide +kernel
theorem dL_law_215 : decode cL_law 215 = .ok (.iaload, 1) := by decide +kernel
theorem dL_law_216 : decode cL_law 216 = .ok (.invokevirtual 27, 3) := by decide +kernel
theorem dL_law_219 : decode cL_law 219 = .ok (.aload_n 2, 1) := by decide +kernel
theorem dL_law_220 : decode cL_law 220 = .ok (.aload_n 0, 1) := by decide +kernel
theorem dL_law_221 : decode cL_law 221 = .ok (.iload_n 3, 1) := by decide +kernel
theorem dL_law_222 : decode cL_law 222 = .ok (.iconst 1, 1) := by decide +kernel
theorem dL_law_223 : decode cL_law 223 = .ok (.iadd, 1) := by decide +kernel
theorem dL_law_224 : decode cL_law 224 = .ok (.iaload, 1) := by decide +kernel
theorem dL_law_225 : decode cL_law 225 = .ok (.aload_n 0, 1) := by decide +kernel
theorem dL_law_226 : decode cL_law 226 = .ok (.iload_n 3, 1) := by decide +kernel
theorem dL_law_227 : decode cL_law 227 = .ok (.iconst 2, 1) := by decide +kernel
theorem dL_law_228 : decode cL_law 228 = .ok (.iadd, 1) := by decide +kernel
theorem dL_law_229 : decode cL_law 229 = .ok (.iaload, 1) := by decide +kernel
theorem dL_law_230 : decode cL_law 230 = .ok (.invokevirtual 31, 3) := by decide +kernel
theorem dL_law_233 : decode cL_law 233 = .ok (.if_icmp .eq 545, 3) := by decide +kernel
theorem dL_law_236 : decode cL_law 236 = .ok (.iconst 0, 1) := by decide +kernel
theorem dL_law_237 : decode cL_law 237 = .ok (.ireturn, 1) := by decide +kernel
theorem dL_law_238 : decode cL_law 238 = .ok (.aload_n 1, 1) := by decide +kernel
theorem dL_law_239 : decode cL_law 239 = .ok (.aload_n 0, 1) := by decide +kernel
theorem dL_law_240 : decode cL_law 240 = .ok (.iload_n 3, 1) := by decide +kernel
theorem dL_law_241 : decode cL_law 241 = .ok (.iconst 1, 1) := by decide +kernel
theorem dL_law_242 : decode cL_law 242 = .ok (.iadd, 1) := by decide +kernel
theorem dL_law_243 : decode cL_law 243 = .ok (.iaload, 1) := by decide +kernel
theorem dL_law_244 : decode cL_law 244 = .ok (.aload_n 0, 1) := by decide +kernel
theorem dL_law_245 : decode cL_law 245 = .ok (.iload_n 3, 1) := by decide +kernel
theorem dL_law_246 : decode cL_law 246 = .ok (.iconst 2, 1) := by decide +kernel
theorem dL_law_247 : decode cL_law 247 = .ok (.iadd, 1) := by decide +kernel
theorem dL_law_248 : decode cL_law 248 = .ok (.iaload, 1) := by decide +kernel
theorem dL_law_249 : decode cL_law 249 = .ok (.invokevirtual 32, 3) := by decide +kernel
theorem dL_law_252 : decode cL_law 252 = .ok (.aload_n 2, 1) := by decide +kernel
theorem dL_law_253 : decode cL_law 253 = .ok (.aload_n 0, 1) := by decide +kernel
theorem dL_law_254 : decode cL_law 254 = .ok (.iload_n 3, 1) := by decide +kernel
theorem dL_law_255 : decode cL_law 255 = .ok (.iconst 1, 1) := by decide +kernel
theorem dL_law_256 : decode cL_law 256 = .ok (.iadd, 1) := by decide +kernel
theorem dL_law_257 : decode cL_law 257 = .ok (.iaload, 1) := by decide +kernel
theorem dL_law_258 : decode cL_law 258 = .ok (.aload_n 0, 1) := by decide +kernel
theorem dL_law_259 : decode cL_law 259 = .ok (.iload_n 3, 1) := by decide +kernel
theorem dL_law_260 : decode cL_law 260 = .ok (.iconst 2, 1) := by decide +kernel
theorem dL_law_261 : decode cL_law 261 = .ok (.iadd, 1) := by decide +kernel
theorem dL_law_262 : decode cL_law 262 = .ok (.iaload, 1) := by decide +kernel
theorem dL_law_263 : decode cL_law 263 = .ok (.invokevirtual 35, 3) := by decide +kernel
theorem dL_law_266 : decode cL_law 266 = .ok (.if_icmp .eq 512, 3) := by decide +kernel
theorem dL_law_269 : decode cL_law 269 = .ok (.iconst 0, 1) := by decide +kernel
theorem dL_law_270 : decode cL_law 270 = .ok (.ireturn, 1) := by decide +kernel
theorem dL_law_271 : decode cL_law 271 = .ok (.aload_n 1, 1) := by decide +kernel
theorem dL_law_272 : decode cL_law 272 = .ok (.aload_n 0, 1) := by decide +kernel
theorem dL_law_273 : decode cL_law 273 = .ok (.iload_n 3, 1) := by decide +kernel
theorem dL_law_274 : decode cL_law 274 = .ok (.iconst 1, 1) := by decide +kernel
theorem dL_law_275 : decode cL_law 275 = .ok (.iadd, 1) := by decide +kernel
theorem dL_law_276 : decode cL_law 276 = .ok (.iaload, 1) := by decide +kernel
theorem dL_law_277 : decode cL_law 277 = .ok (.invokevirtual 36, 3) := by decide +kernel
theorem dL_law_280 : decode cL_law 280 = .ok (.aload_n 2, 1) := by decide +kernel
theorem dL_law_281 : decode cL_law 281 = .ok (.aload_n 0, 1) := by decide +kernel
theorem dL_law_282 : decode cL_law 282 = .ok (.iload_n 3, 1) := by decide +kernel
theorem dL_law_283 : decode cL_law 283 = .ok (.iconst 1, 1) := by decide +kernel
theorem dL_law_284 : decode cL_law 284 = .ok (.iadd, 1) := by decide +kernel
theorem dL_law_285 : decode cL_law 285 = .ok (.iaload, 1) := by decide +kernel
theorem dL_law_286 : decode cL_law 286 = .ok (.invokevirtual 39, 3) := by decide +kernel
theorem dL_law_289 : decode cL_law 289 = .ok (.if_icmp .eq 489, 3) := by decide +kernel
theorem dL_law_292 : decode cL_law 292 = .ok (.iconst 0, 1) := by decide +kernel
theorem dL_law_293 : decode cL_law 293 = .ok (.ireturn, 1) := by decide +kernel
theorem dL_law_294 : decode cL_law 294 = .ok (.aload_n 1, 1) := by decide +kernel
theorem dL_law_295 : decode cL_law 295 = .ok (.aload_n 0, 1) := by decide +kernel
theorem dL_law_296 : decode cL_law 296 = .ok (.iload_n 3, 1) := by decide +kernel
theorem dL_law_297 : decode cL_law 297 = .ok (.iconst 1, 1) := by decide +kernel
theorem dL_law_298 : decode cL_law 298 = .ok (.iadd, 1) := by decide +kernel
theorem dL_law_299 : decode cL_law 299 = .ok (.iaload, 1) := by decide +kernel
theorem dL_law_300 : decode cL_law 300 = .ok (.invokevirtual 40, 3) := by decide +kernel
theorem dL_law_303 : decode cL_law 303 = .ok (.aload_n 2, 1) := by decide +kernel
theorem dL_law_304 : decode cL_law 304 = .ok (.aload_n 0, 1) := by decide +kernel
theorem dL_law_305 : decode cL_law 305 = .ok (.iload_n 3, 1) := by decide +kernel
theorem dL_law_306 : decode cL_law 306 = .ok (.iconst 1, 1) := by decide +kernel
theorem dL_law_307 : decode cL_law 307 = .ok (.iadd, 1) := by decide +kernel
theorem dL_law_308 : decode cL_law 308 = .ok (.iaload, 1) := by decide +kernel
theorem dL_law_309 : decode cL_law 309 = .ok (.invokevirtual 43, 3) := by decide +kernel
theorem dL_law_312 : decode cL_law 312 = .ok (.if_icmp .eq 466, 3) := by decide +kernel
theorem dL_law_315 : decode cL_law 315 = .ok (.iconst 0, 1) := by decide +kernel
theorem dL_law_316 : decode cL_law 316 = .ok (.ireturn, 1) := by decide +kernel
theorem dL_law_317 : decode cL_law 317 = .ok (.aload_n 1, 1) := by decide +kernel
theorem dL_law_318 : decode cL_law 318 = .ok (.aload_n 0, 1) := by decide +kernel
theorem dL_law_319 : decode cL_law 319 = .ok (.iload_n 3, 1) := by decide +kernel
theorem dL_law_320 : decode cL_law 320 = .ok (.iconst 1, 1) := by decide +kernel
theorem dL_law_321 : decode cL_law 321 = .ok (.iadd, 1) := by decide +kernel
theorem dL_law_322 : decode cL_law 322 = .ok (.iaload, 1) := by decide +kernel
theorem dL_law_323 : decode cL_law 323 = .ok (.invokevirtual 44, 3) := by decide +kernel
theorem dL_law_326 : decode cL_law 326 = .ok (.aload_n 2, 1) := by decide +kernel
theorem dL_law_327 : decode cL_law 327 = .ok (.aload_n 0, 1) := by decide +kernel
theorem dL_law_328 : decode cL_law 328 = .ok (.iload_n 3, 1) := by decide +kernel
theorem dL_law_329 : decode cL_law 329 = .ok (.iconst 1, 1) := by decide +kernel
theorem dL_law_330 : decode cL_law 330 = .ok (.iadd, 1) := by decide +kernel
theorem dL_law_331 : decode cL_law 331 = .ok (.iaload, 1) := by decide +kernel
theorem dL_law_332 : decode cL_law 332 = .ok (.invokevirtual 47, 3) := by decide +kernel
theorem dL_law_335 : decode cL_law 335 = .ok (.if_icmp .eq 443, 3) := by decide +kernel
theorem dL_law_338 : decode cL_law 338 = .ok (.iconst 0, 1) := by decide +kernel
theorem dL_law_339 : decode cL_law 339 = .ok (.ireturn, 1) := by decide +kernel
theorem dL_law_340 : decode cL_law 340 = .ok (.aload_n 1, 1) := by decide +kernel
theorem dL_law_341 : decode cL_law 341 = .ok (.aload_n 0, 1) := by decide +kernel
theorem dL_law_342 : decode cL_law 342 = .ok (.iload_n 3, 1) := by decide +kernel
theorem dL_law_343 : decode cL_law 343 = .ok (.iconst 1, 1) := by decide +kernel
theorem dL_law_344 : decode cL_law 344 = .ok (.iadd, 1) := by decide +kernel
theorem dL_law_345 : decode cL_law 345 = .ok (.iaload, 1) := by decide +kernel
theorem dL_law_346 : decode cL_law 346 = .ok (.invokevirtual 48, 3) := by decide +kernel
theorem dL_law_349 : decode cL_law 349 = .ok (.aload_n 2, 1) := by decide +kernel
theorem dL_law_350 : decode cL_law 350 = .ok (.aload_n 0, 1) := by decide +kernel
theorem dL_law_351 : decode cL_law 351 = .ok (.iload_n 3, 1) := by decide +kernel
theorem dL_law_352 : decode cL_law 352 = .ok (.iconst 1, 1) := by decide +kernel
theorem dL_law_353 : decode cL_law 353 = .ok (.iadd, 1) := by decide +kernel
theorem dL_law_354 : decode cL_law 354 = .ok (.iaload, 1) := by decide +kernel
theorem dL_law_355 : decode cL_law 355 = .ok (.invokevirtual 51, 3) := by decide +kernel
theorem dL_law_358 : decode cL_law 358 = .ok (.if_icmp .eq 420, 3) := by decide +kernel
theorem dL_law_361 : decode cL_law 361 = .ok (.iconst 0, 1) := by decide +kernel
theorem dL_law_362 : decode cL_law 362 = .ok (.ireturn, 1) := by decide +kernel
theorem dL_law_363 : decode cL_law 363 = .ok (.aload_n 1, 1) := by decide +kernel
theorem dL_law_364 : decode cL_law 364 = .ok (.aload_n 0, 1) := by decide +kernel
theorem dL_law_365 : decode cL_law 365 = .ok (.iload_n 3, 1) := by decide +kernel
theorem dL_law_366 : decode cL_law 366 = .ok (.iconst 1, 1) := by decide +kernel
theorem dL_law_367 : decode cL_law 367 = .ok (.iadd, 1) := by decide +kernel
theorem dL_law_368 : decode cL_law 368 = .ok (.iaload, 1) := by decide +kernel
theorem dL_law_369 : decode cL_law 369 = .ok (.invokevirtual 52, 3) := by decide +kernel
theorem dL_law_372 : decode cL_law 372 = .ok (.aload_n 2, 1) := by decide +kernel
theorem dL_law_373 : decode cL_law 373 = .ok (.aload_n 0, 1) := by decide +kernel
theorem dL_law_374 : decode cL_law 374 = .ok (.iload_n 3, 1) := by decide +kernel
theorem dL_law_375 : decode cL_law 375 = .ok (.iconst 1, 1) := by decide +kernel
theorem dL_law_376 : decode cL_law 376 = .ok (.iadd, 1) := by decide +kernel
theorem dL_law_377 : decode cL_law 377 = .ok (.iaload, 1) := by decide +kernel
theorem dL_law_378 : decode cL_law 378 = .ok (.invokevirtual 55, 3) := by decide +kernel
theorem dL_law_381 : decode cL_law 381 = .ok (.if_icmp .eq 397, 3) := by decide +kernel
theorem dL_law_384 : decode cL_law 384 = .ok (.iconst 0, 1) := by decide +kernel
theorem dL_law_385 : decode cL_law 385 = .ok (.ireturn, 1) := by decide +kernel
theorem dL_law_386 : decode cL_law 386 = .ok (.aload_n 1, 1) := by decide +kernel
theorem dL_law_387 : decode cL_law 387 = .ok (.invokevirtual 56, 3) := by decide +kernel
theorem dL_law_390 : decode cL_law 390 = .ok (.aload_n 2, 1) := by decide +kernel
theorem dL_law_391 : decode cL_law 391 = .ok (.invokevirtual 59, 3) := by decide +kernel
theorem dL_law_394 : decode cL_law 394 = .ok (.if_icmp .eq 384, 3) := by decide +kernel
theorem dL_law_397 : decode cL_law 397 = .ok (.iconst 0, 1) := by decide +kernel
theorem dL_law_398 : decode cL_law 398 = .ok (.ireturn, 1) := by decide +kernel
theorem dL_law_399 : decode cL_law 399 = .ok (.aload_n 1, 1) := by decide +kernel
theorem dL_law_400 : decode cL_law 400 = .ok (.aload_n 0, 1) := by decide +kernel
theorem dL_law_401 : decode cL_law 401 = .ok (.iload_n 3, 1) := by decide +kernel
theorem dL_law_402 : decode cL_law 402 = .ok (.iconst 1, 1) := by decide +kernel
theorem dL_law_403 : decode cL_law 403 = .ok (.iadd, 1) := by decide +kernel
theorem dL_law_404 : decode cL_law 404 = .ok (.iaload, 1) := by decide +kernel
theorem dL_law_405 : decode cL_law 405 = .ok (.aload_n 0, 1) := by decide +kernel
theorem dL_law_406 : decode cL_law 406 = .ok (.iload_n 3, 1) := by decide +kernel
theorem dL_law_407 : decode cL_law 407 = .ok (.iconst 2, 1) := by decide +kernel
theorem dL_law_408 : decode cL_law 408 = .ok (.iadd, 1) := by decide +kernel
theorem dL_law_409 : decode cL_law 409 = .ok (.iaload, 1) := by decide +kernel
theorem dL_law_410 : decode cL_law 410 = .ok (.invokevirtual 60, 3) := by decide +kernel
theorem dL_law_413 : decode cL_law 413 = .ok (.aload_n 2, 1) := by decide +kernel
theorem dL_law_414 : decode cL_law 414 = .ok (.aload_n 0, 1) := by decide +kernel
theorem dL_law_415 : decode cL_law 415 = .ok (.iload_n 3, 1) := by decide +kernel
theorem dL_law_416 : decode cL_law 416 = .ok (.iconst 1, 1) := by decide +kernel
theorem dL_law_417 : decode cL_law 417 = .ok (.iadd, 1) := by decide +kernel
theorem dL_law_418 : decode cL_law 418 = .ok (.iaload, 1) := by decide +kernel
theorem dL_law_419 : decode cL_law 419 = .ok (.aload_n 0, 1) := by decide +kernel
theorem dL_law_420 : decode cL_law 420 = .ok (.iload_n 3, 1) := by decide +kernel
theorem dL_law_421 : decode cL_law 421 = .ok (.iconst 2, 1) := by decide +kernel
theorem dL_law_422 : decode cL_law 422 = .ok (.iadd, 1) := by decide +kernel
theorem dL_law_423 : decode cL_law 423 = .ok (.iaload, 1) := by decide +kernel
theorem dL_law_424 : decode cL_law 424 = .ok (.invokevirtual 63, 3) := by decide +kernel
theorem dL_law_427 : decode cL_law 427 = .ok (.if_icmp .eq 351, 3) := by decide +kernel
theorem dL_law_430 : decode cL_law 430 = .ok (.iconst 0, 1) := by decide +kernel
theorem dL_law_431 : decode cL_law 431 = .ok (.ireturn, 1) := by decide +kernel
theorem dL_law_432 : decode cL_law 432 = .ok (.aload_n 1, 1) := by decide +kernel
theorem dL_law_433 : decode cL_law 433 = .ok (.invokevirtual 64, 3) := by decide +kernel
theorem dL_law_436 : decode cL_law 436 = .ok (.aload_n 2, 1) := by decide +kernel
theorem dL_law_437 : decode cL_law 437 = .ok (.invokevirtual 67, 3) := by decide +kernel
theorem dL_law_440 : decode cL_law 440 = .ok (.if_icmp .eq 338, 3) := by decide +kernel
theorem dL_law_443 : decode cL_law 443 = .ok (.iconst 0, 1) := by decide +kernel
theorem dL_law_444 : decode cL_law 444 = .ok (.ireturn, 1) := by decide +kernel
theorem dL_law_445 : decode cL_law 445 = .ok (.aload_n 1, 1) := by decide +kernel
theorem dL_law_446 : decode cL_law 446 = .ok (.aload_n 0, 1) := by decide +kernel
theorem dL_law_447 : decode cL_law 447 = .ok (.iload_n 3, 1) := by decide +kernel
theorem dL_law_448 : decode cL_law 448 = .ok (.iconst 1, 1) := by decide +kernel
theorem dL_law_449 : decode cL_law 449 = .ok (.iadd, 1) := by decide +kernel
theorem dL_law_450 : decode cL_law 450 = .ok (.iaload, 1) := by decide +kernel
theorem dL_law_451 : decode cL_law 451 = .ok (.invokevirtual 68, 3) := by decide +kernel
theorem dL_law_454 : decode cL_law 454 = .ok (.aload_n 2, 1) := by decide +kernel
theorem dL_law_455 : decode cL_law 455 = .ok (.aload_n 0, 1) := by decide +kernel
theorem dL_law_456 : decode cL_law 456 = .ok (.iload_n 3, 1) := by decide +kernel
theorem dL_law_457 : decode cL_law 457 = .ok (.iconst 1, 1) := by decide +kernel
theorem dL_law_458 : decode cL_law 458 = .ok (.iadd, 1) := by decide +kernel
theorem dL_law_459 : decode cL_law 459 = .ok (.iaload, 1) := by decide +kernel
theorem dL_law_460 : decode cL_law 460 = .ok (.invokevirtual 71, 3) := by decide +kernel
theorem dL_law_463 : decode cL_law 463 = .ok (.if_icmp .eq 315, 3) := by decide +kernel
theorem dL_law_466 : decode cL_law 466 = .ok (.iconst 0, 1) := by decide +kernel
theorem dL_law_467 : decode cL_law 467 = .ok (.ireturn, 1) := by decide +kernel
theorem dL_law_468 : decode cL_law 468 = .ok (.aload_n 1, 1) := by decide +kernel
theorem dL_law_469 : decode cL_law 469 = .ok (.invokevirtual 72, 3) := by decide +kernel
theorem dL_law_472 : decode cL_law 472 = .ok (.aload_n 2, 1) := by decide +kernel
theorem dL_law_473 : decode cL_law 473 = .ok (.invokevirtual 75, 3) := by decide +kernel
theorem dL_law_476 : decode cL_law 476 = .ok (.if_icmp .eq 302, 3) := by decide +kernel
theorem dL_law_479 : decode cL_law 479 = .ok (.iconst 0, 1) := by decide +kernel
theorem dL_law_480 : decode cL_law 480 = .ok (.ireturn, 1) := by decide +kernel
theorem dL_law_481 : decode cL_law 481 = .ok (.aload_n 1, 1) := by decide +kernel
theorem dL_law_482 : decode cL_law 482 = .ok (.invokevirtual 76, 3) := by decide +kernel
theorem dL_law_485 : decode cL_law 485 = .ok (.aload_n 2, 1) := by decide +kernel
theorem dL_law_486 : decode cL_law 486 = .ok (.invokevirtual 79, 3) := by decide +kernel
theorem dL_law_489 : decode cL_law 489 = .ok (.if_icmp .eq 289, 3) := by decide +kernel
theorem dL_law_492 : decode cL_law 492 = .ok (.iconst 0, 1) := by decide +kernel
theorem dL_law_493 : decode cL_law 493 = .ok (.ireturn, 1) := by decide +kernel
theorem dL_law_494 : decode cL_law 494 = .ok (.aload_n 1, 1) := by decide +kernel
theorem dL_law_495 : decode cL_law 495 = .ok (.invokevirtual 80, 3) := by decide +kernel
theorem dL_law_498 : decode cL_law 498 = .ok (.aload_n 2, 1) := by decide +kernel
theorem dL_law_499 : decode cL_law 499 = .ok (.invokevirtual 83, 3) := by decide +kernel
theorem dL_law_502 : decode cL_law 502 = .ok (.if_icmp .eq 276, 3) := by decide +kernel
theorem dL_law_505 : decode cL_law 505 = .ok (.iconst 0, 1) := by decide +kernel
theorem dL_law_506 : decode cL_law 506 = .ok (.ireturn, 1) := by decide +kernel
theorem dL_law_507 : decode cL_law 507 = .ok (.aload_n 1, 1) := by decide +kernel
theorem dL_law_508 : decode cL_law 508 = .ok (.aload_n 0, 1) := by decide +kernel
theorem dL_law_509 : decode cL_law 509 = .ok (.iload_n 3, 1) := by decide +kernel
theorem dL_law_510 : decode cL_law 510 = .ok (.iconst 1, 1) := by decide +kernel
theorem dL_law_511 : decode cL_law 511 = .ok (.iadd, 1) := by decide +kernel
theorem dL_law_512 : decode cL_law 512 = .ok (.iaload, 1) := by decide +kernel
theorem dL_law_513 : decode cL_law 513 = .ok (.aload_n 0, 1) := by decide +kernel
theorem dL_law_514 : decode cL_law 514 = .ok (.iload_n 3, 1) := by decide +kernel
theorem dL_law_515 : decode cL_law 515 = .ok (.iconst 2, 1) := by decide +kernel
theorem dL_law_516 : decode cL_law 516 = .ok (.iadd, 1) := by decide +kernel
theorem dL_law_517 : decode cL_law 517 = .ok (.iaload, 1) := by decide +kernel
theorem dL_law_518 : decode cL_law 518 = .ok (.invokevirtual 84, 3) := by decide +kernel
theorem dL_law_521 : decode cL_law 521 = .ok (.aload_n 2, 1) := by decide +kernel
theorem dL_law_522 : decode cL_law 522 = .ok (.aload_n 0, 1) := by decide +kernel
theorem dL_law_523 : decode cL_law 523 = .ok (.iload_n 3, 1) := by decide +kernel
theorem dL_law_524 : decode cL_law 524 = .ok (.iconst 1, 1) := by decide +kernel
theorem dL_law_525 : decode cL_law 525 = .ok (.iadd, 1) := by decide +kernel
theorem dL_law_526 : decode cL_law 526 = .ok (.iaload, 1) := by decide +kernel
theorem dL_law_527 : decode cL_law 527 = .ok (.aload_n 0, 1) := by decide +kernel
theorem dL_law_528 : decode cL_law 528 = .ok (.iload_n 3, 1) := by decide +kernel
theorem dL_law_529 : decode cL_law 529 = .ok (.iconst 2, 1) := by decide +kernel
theorem dL_law_530 : decode cL_law 530 = .ok (.iadd, 1) := by decide +kernel
theorem dL_law_531 : decode cL_law 531 = .ok (.iaload, 1) := by decide +kernel
theorem dL_law_532 : decode cL_law 532 = .ok (.invokevirtual 87, 3) := by decide +kernel
theorem dL_law_535 : decode cL_law 535 = .ok (.if_icmp .eq 243, 3) := by decide +kernel
theorem dL_law_538 : decode cL_law 538 = .ok (.iconst 0, 1) := by decide +kernel
theorem dL_law_539 : decode cL_law 539 = .ok (.ireturn, 1) := by decide +kernel
theorem dL_law_540 : decode cL_law 540 = .ok (.aload_n 1, 1) := by decide +kernel
theorem dL_law_541 : decode cL_law 541 = .ok (.invokevirtual 88, 3) := by decide +kernel
theorem dL_law_544 : decode cL_law 544 = .ok (.aload_n 2, 1) := by decide +kernel
theorem dL_law_545 : decode cL_law 545 = .ok (.invokevirtual 91, 3) := by decide +kernel
theorem dL_law_548 : decode cL_law 548 = .ok (.if_icmp .eq 230, 3) := by decide +kernel
theorem dL_law_551 : decode cL_law 551 = .ok (.iconst 0, 1) := by decide +kernel
theorem dL_law_552 : decode cL_law 552 = .ok (.ireturn, 1) := by decide +kernel
theorem dL_law_553 : decode cL_law 553 = .ok (.aload_n 1, 1) := by decide +kernel
theorem dL_law_554 : decode cL_law 554 = .ok (.invokevirtual 92, 3) := by decide +kernel
theorem dL_law_557 : decode cL_law 557 = .ok (.aload_n 2, 1) := by decide +kernel
theorem dL_law_558 : decode cL_law 558 = .ok (.invokevirtual 95, 3) := by decide +kernel
theorem dL_law_561 : decode cL_law 561 = .ok (.if_icmp .eq 217, 3) := by decide +kernel
theorem dL_law_564 : decode cL_law 564 = .ok (.iconst 0, 1) := by decide +kernel
theorem dL_law_565 : decode cL_law 565 = .ok (.ireturn, 1) := by decide +kernel
theorem dL_law_566 : decode cL_law 566 = .ok (.aload_n 1, 1) := by decide +kernel
theorem dL_law_567 : decode cL_law 567 = .ok (.aload_n 0, 1) := by decide +kernel
theorem dL_law_568 : decode cL_law 568 = .ok (.iload_n 3, 1) := by decide +kernel
theorem dL_law_569 : decode cL_law 569 = .ok (.iconst 1, 1) := by decide +kernel
theorem dL_law_570 : decode cL_law 570 = .ok (.iadd, 1) := by decide +kernel
theorem dL_law_571 : decode cL_law 571 = .ok (.iaload, 1) := by decide +kernel
theorem dL_law_572 : decode cL_law 572 = .ok (.aload_n 0, 1) := by decide +kernel
theorem dL_law_573 : decode cL_law 573 = .ok (.iload_n 3, 1) := by decide +kernel
theorem dL_law_574 : decode cL_law 574 = .ok (.iconst 2, 1) := by decide +kernel
theorem dL_law_575 : decode cL_law 575 = .ok (.iadd, 1) := by decide +kernel
theorem dL_law_576 : decode cL_law 576 = .ok (.iaload, 1) := by decide +kernel
theorem dL_law_577 : decode cL_law 577 = .ok (.invokevirtual 96, 3) := by decide +kernel
theorem dL_law_580 : decode cL_law 580 = .ok (.aload_n 2, 1) := by decide +kernel
theorem dL_law_581 : decode cL_law 581 = .ok (.aload_n 0, 1) := by decide +kernel
theorem dL_law_582 : decode cL_law 582 = .ok (.iload_n 3, 1) := by decide +kernel
theorem dL_law_583 : decode cL_law 583 = .ok (.iconst 1, 1) := by decide +kernel
theorem dL_law_584 : decode cL_law 584 = .ok (.iadd, 1) := by decide +kernel
theorem dL_law_585 : decode cL_law 585 = .ok (.iaload, 1) := by decide +kernel
theorem dL_law_586 : decode cL_law 586 = .ok (.aload_n 0, 1) := by decide +kernel
theorem dL_law_587 : decode cL_law 587 = .ok (.iload_n 3, 1) := by decide +kernel
theorem dL_law_588 : decode cL_law 588 = .ok (.iconst 2, 1) := by decide +kernel
theorem dL_law_589 : decode cL_law 589 = .ok (.iadd, 1) := by decide +kernel
theorem dL_law_590 : decode cL_law 590 = .ok (.iaload, 1) := by decide +kernel
theorem dL_law_591 : decode cL_law 591 = .ok (.invokevirtual 99, 3) := by decide +kernel
theorem dL_law_594 : decode cL_law 594 = .ok (.if_icmp .eq 184, 3) := by decide +kernel
theorem dL_law_597 : decode cL_law 597 = .ok (.iconst 0, 1) := by decide +kernel
theorem dL_law_598 : decode cL_law 598 = .ok (.ireturn, 1) := by decide +kernel
theorem dL_law_599 : decode cL_law 599 = .ok (.aload_n 1, 1) := by decide +kernel
theorem dL_law_600 : decode cL_law 600 = .ok (.aload_n 0, 1) := by decide +kernel
theorem dL_law_601 : decode cL_law 601 = .ok (.iload_n 3, 1) := by decide +kernel
theorem dL_law_602 : decode cL_law 602 = .ok (.iconst 1, 1) := by decide +kernel
theorem dL_law_603 : decode cL_law 603 = .ok (.iadd, 1) := by decide +kernel
theorem dL_law_604 : decode cL_law 604 = .ok (.iaload, 1) := by decide +kernel
theorem dL_law_605 : decode cL_law 605 = .ok (.aload_n 0, 1) := by decide +kernel
theorem dL_law_606 : decode cL_law 606 = .ok (.iload_n 3, 1) := by decide +kernel
theorem dL_law_607 : decode cL_law 607 = .ok (.iconst 2, 1) := by decide +kernel
theorem dL_law_608 : decode cL_law 608 = .ok (.iadd, 1) := by decide +kernel
theorem dL_law_609 : decode cL_law 609 = .ok (.iaload, 1) := by decide +kernel
theorem dL_law_610 : decode cL_law 610 = .ok (.aload_n 0, 1) := by decide +kernel
theorem dL_law_611 : decode cL_law 611 = .ok (.iload_n 3, 1) := by decide +kernel
theorem dL_law_612 : decode cL_law 612 = .ok (.iconst 3, 1) := by decide +kernel
theorem dL_law_613 : decode cL_law 613 = .ok (.iadd, 1) := by decide +kernel
theorem dL_law_614 : decode cL_law 614 = .ok (.iaload, 1) := by decide +kernel
theorem dL_law_615 : decode cL_law 615 = .ok (.aload_n 0, 1) := by decide +kernel
theorem dL_law_616 : decode cL_law 616 = .ok (.iload_n 3, 1) := by decide +kernel
theorem dL_law_617 : decode cL_law 617 = .ok (.iconst 4, 1) := by decide +kernel
theorem dL_law_618 : decode cL_law 618 = .ok (.iadd, 1) := by decide +kernel
theorem dL_law_619 : decode cL_law 619 = .ok (.iaload, 1) := by decide +kernel
theorem dL_law_620 : decode cL_law 620 = .ok (.aload_n 0, 1) := by decide +kernel
theorem dL_law_621 : decode cL_law 621 = .ok (.iload_n 3, 1) := by decide +kernel
theorem dL_law_622 : decode cL_law 622 = .ok (.iconst 5, 1) := by decide +kernel
theorem dL_law_623 : decode cL_law 623 = .ok (.iadd, 1) := by decide +kernel
theorem dL_law_624 : decode cL_law 624 = .ok (.iaload, 1) := by decide +kernel
theorem dL_law_625 : decode cL_law 625 = .ok (.invokevirtual 100, 3) := by decide +kernel
theorem dL_law_628 : decode cL_law 628 = .ok (.aload_n 2, 1) := by decide +kernel
theorem dL_law_629 : decode cL_law 629 = .ok (.aload_n 0, 1) := by decide +kernel
theorem dL_law_630 : decode cL_law 630 = .ok (.iload_n 3, 1) := by decide +kernel
theorem dL_law_631 : decode cL_law 631 = .ok (.iconst 1, 1) := by decide +kernel
theorem dL_law_632 : decode cL_law 632 = .ok (.iadd, 1) := by decide +kernel
theorem dL_law_633 : decode cL_law 633 = .ok (.iaload, 1) := by decide +kernel
theorem dL_law_634 : decode cL_law 634 = .ok (.aload_n 0, 1) := by decide +kernel
theorem dL_law_635 : decode cL_law 635 = .ok (.iload_n 3, 1) := by decide +kernel
theorem dL_law_636 : decode cL_law 636 = .ok (.iconst 2, 1) := by decide +kernel
theorem dL_law_637 : decode cL_law 637 = .ok (.iadd, 1) := by decide +kernel
theorem dL_law_638 : decode cL_law 638 = .ok (.iaload, 1) := by decide +kernel
theorem dL_law_639 : decode cL_law 639 = .ok (.aload_n 0, 1) := by decide +kernel
theorem dL_law_640 : decode cL_law 640 = .ok (.iload_n 3, 1) := by decide +kernel
theorem dL_law_641 : decode cL_law 641 = .ok (.iconst 3, 1) := by decide +kernel
theorem dL_law_642 : decode cL_law 642 = .ok (.iadd, 1) := by decide +kernel
theorem dL_law_643 : decode cL_law 643 = .ok (.iaload, 1) := by decide +kernel
theorem dL_law_644 : decode cL_law 644 = .ok (.aload_n 0, 1) := by decide +kernel
theorem dL_law_645 : decode cL_law 645 = .ok (.iload_n 3, 1) := by decide +kernel
theorem dL_law_646 : decode cL_law 646 = .ok (.iconst 4, 1) := by decide +kernel
theorem dL_law_647 : decode cL_law 647 = .ok (.iadd, 1) := by decide +kernel
theorem dL_law_648 : decode cL_law 648 = .ok (.iaload, 1) := by decide +kernel
theorem dL_law_649 : decode cL_law 649 = .ok (.aload_n 0, 1) := by decide +kernel
theorem dL_law_650 : decode cL_law 650 = .ok (.iload_n 3, 1) := by decide +kernel
theorem dL_law_651 : decode cL_law 651 = .ok (.iconst 5, 1) := by decide +kernel
theorem dL_law_652 : decode cL_law 652 = .ok (.iadd, 1) := by decide +kernel
theorem dL_law_653 : decode cL_law 653 = .ok (.iaload, 1) := by decide +kernel
theorem dL_law_654 : decode cL_law 654 = .ok (.invokevirtual 104, 3) := by decide +kernel
theorem dL_law_657 : decode cL_law 657 = .ok (.if_icmp .eq 121, 3) := by decide +kernel
theorem dL_law_660 : decode cL_law 660 = .ok (.iconst 0, 1) := by decide +kernel
theorem dL_law_661 : decode cL_law 661 = .ok (.ireturn, 1) := by decide +kernel
theorem dL_law_662 : decode cL_law 662 = .ok (.aload_n 1, 1) := by decide +kernel
theorem dL_law_663 : decode cL_law 663 = .ok (.aload_n 0, 1) := by decide +kernel
theorem dL_law_664 : decode cL_law 664 = .ok (.iload_n 3, 1) := by decide +kernel
theorem dL_law_665 : decode cL_law 665 = .ok (.iconst 1, 1) := by decide +kernel
theorem dL_law_666 : decode cL_law 666 = .ok (.iadd, 1) := by decide +kernel
theorem dL_law_667 : decode cL_law 667 = .ok (.iaload, 1) := by decide +kernel
theorem dL_law_668 : decode cL_law 668 = .ok (.aload_n 0, 1) := by decide +kernel
theorem dL_law_669 : decode cL_law 669 = .ok (.iload_n 3, 1) := by decide +kernel
theorem dL_law_670 : decode cL_law 670 = .ok (.iconst 2, 1) := by decide +kernel
theorem dL_law_671 : decode cL_law 671 = .ok (.iadd, 1) := by decide +kernel
theorem dL_law_672 : decode cL_law 672 = .ok (.iaload, 1) := by decide +kernel
theorem dL_law_673 : decode cL_law 673 = .ok (.invokevirtual 105, 3) := by decide +kernel
theorem dL_law_676 : decode cL_law 676 = .ok (.aload_n 2, 1) := by decide +kernel
theorem dL_law_677 : decode cL_law 677 = .ok (.aload_n 0, 1) := by decide +kernel
theorem dL_law_678 : decode cL_law 678 = .ok (.iload_n 3, 1) := by decide +kernel
theorem dL_law_679 : decode cL_law 679 = .ok (.iconst 1, 1) := by decide +kernel
theorem dL_law_680 : decode cL_law 680 = .ok (.iadd, 1) := by decide +kernel
theorem dL_law_681 : decode cL_law 681 = .ok (.iaload, 1) := by decide +kernel
theorem dL_law_682 : decode cL_law 682 = .ok (.aload_n 0, 1) := by decide +kernel
theorem dL_law_683 : decode cL_law 683 = .ok (.iload_n 3, 1) := by decide +kernel
theorem dL_law_684 : decode cL_law 684 = .ok (.iconst 2, 1) := by decide +kernel
theorem dL_law_685 : decode cL_law 685 = .ok (.iadd, 1) := by decide +kernel
theorem dL_law_686 : decode cL_law 686 = .ok (.iaload, 1) := by decide +kernel
theorem dL_law_687 : decode cL_law 687 = .ok (.invokevirtual 108, 3) := by decide +kernel
theorem dL_law_690 : decode cL_law 690 = .ok (.if_icmp .eq 88, 3) := by decide +kernel
theorem dL_law_693 : decode cL_law 693 = .ok (.iconst 0, 1) := by decide +kernel
theorem dL_law_694 : decode cL_law 694 = .ok (.ireturn, 1) := by decide +kernel
theorem dL_law_695 : decode cL_law 695 = .ok (.aload_n 1, 1) := by decide +kernel
theorem dL_law_696 : decode cL_law 696 = .ok (.aload_n 0, 1) := by decide +kernel
theorem dL_law_697 : decode cL_law 697 = .ok (.iload_n 3, 1) := by decide +kernel
theorem dL_law_698 : decode cL_law 698 = .ok (.iconst 1, 1) := by decide +kernel
theorem dL_law_699 : decode cL_law 699 = .ok (.iadd, 1) := by decide +kernel
theorem dL_law_700 : decode cL_law 700 = .ok (.iaload, 1) := by decide +kernel
theorem dL_law_701 : decode cL_law 701 = .ok (.invokevirtual 109, 3) := by decide +kernel
theorem dL_law_704 : decode cL_law 704 = .ok (.aload_n 2, 1) := by decide +kernel
theorem dL_law_705 : decode cL_law 705 = .ok (.aload_n 0, 1) := by decide +kernel
theorem dL_law_706 : decode cL_law 706 = .ok (.iload_n 3, 1) := by decide +kernel
theorem dL_law_707 : decode cL_law 707 = .ok (.iconst 1, 1) := by decide +kernel
theorem dL_law_708 : decode cL_law 708 = .ok (.iadd, 1) := by decide +kernel
theorem dL_law_709 : decode cL_law 709 = .ok (.iaload, 1) := by decide +kernel
theorem dL_law_710 : decode cL_law 710 = .ok (.invokevirtual 112, 3) := by decide +kernel
theorem dL_law_713 : decode cL_law 713 = .ok (.if_icmp .eq 65, 3) := by decide +kernel
theorem dL_law_716 : decode cL_law 716 = .ok (.iconst 0, 1) := by decide +kernel
theorem dL_law_717 : decode cL_law 717 = .ok (.ireturn, 1) := by decide +kernel
theorem dL_law_718 : decode cL_law 718 = .ok (.aload_n 1, 1) := by decide +kernel
theorem dL_law_719 : decode cL_law 719 = .ok (.aload_n 0, 1) := by decide +kernel
theorem dL_law_720 : decode cL_law 720 = .ok (.iload_n 3, 1) := by decide +kernel
theorem dL_law_721 : decode cL_law 721 = .ok (.iconst 1, 1) := by decide +kernel
theorem dL_law_722 : decode cL_law 722 = .ok (.iadd, 1) := by decide +kernel
theorem dL_law_723 : decode cL_law 723 = .ok (.iaload, 1) := by decide +kernel
theorem dL_law_724 : decode cL_law 724 = .ok (.invokevirtual 113, 3) := by decide +kernel
theorem dL_law_727 : decode cL_law 727 = .ok (.aload_n 2, 1) := by decide +kernel
theorem dL_law_728 : decode cL_law 728 = .ok (.aload_n 0, 1) := by decide +kernel
theorem dL_law_729 : decode cL_law 729 = .ok (.iload_n 3, 1) := by decide +kernel
theorem dL_law_730 : decode cL_law 730 = .ok (.iconst 1, 1) := by decide +kernel
theorem dL_law_731 : decode cL_law 731 = .ok (.iadd, 1) := by decide +kernel
theorem dL_law_732 : decode cL_law 732 = .ok (.iaload, 1) := by decide +kernel
theorem dL_law_733 : decode cL_law 733 = .ok (.invokevirtual 116, 3) := by decide +kernel
theorem dL_law_736 : decode cL_law 736 = .ok (.if_icmp .eq 42, 3) := by decide +kernel
theorem dL_law_739 : decode cL_law 739 = .ok (.iconst 0, 1) := by decide +kernel
theorem dL_law_740 : decode cL_law 740 = .ok (.ireturn, 1) := by decide +kernel
theorem dL_law_741 : decode cL_law 741 = .ok (.aload_n 1, 1) := by decide +kernel
theorem dL_law_742 : decode cL_law 742 = .ok (.aload_n 0, 1) := by decide +kernel
theorem dL_law_743 : decode cL_law 743 = .ok (.iload_n 3, 1) := by decide +kernel
theorem dL_law_744 : decode cL_law 744 = .ok (.iconst 1, 1) := by decide +kernel
theorem dL_law_745 : decode cL_law 745 = .ok (.iadd, 1) := by decide +kernel
theorem dL_law_746 : decode cL_law 746 = .ok (.iaload, 1) := by decide +kernel
theorem dL_law_747 : decode cL_law 747 = .ok (.invokevirtual 117, 3) := by decide +kernel
theorem dL_law_750 : decode cL_law 750 = .ok (.aload_n 2, 1) := by decide +kernel
theorem dL_law_751 : decode cL_law 751 = .ok (.aload_n 0, 1) := by decide +kernel
theorem dL_law_752 : decode cL_law 752 = .ok (.iload_n 3, 1) := by decide +kernel
theorem dL_law_753 : decode cL_law 753 = .ok (.iconst 1, 1) := by decide +kernel
theorem dL_law_754 : decode cL_law 754 = .ok (.iadd, 1) := by decide +kernel
theorem dL_law_755 : decode cL_law 755 = .ok (.iaload, 1) := by decide +kernel
theorem dL_law_756 : decode cL_law 756 = .ok (.invokevirtual 120, 3) := by decide +kernel
theorem dL_law_759 : decode cL_law 759 = .ok (.if_icmp .eq 19, 3) := by decide +kernel
theorem dL_law_762 : decode cL_law 762 = .ok (.iconst 0, 1) := by decide +kernel
theorem dL_law_763 : decode cL_law 763 = .ok (.ireturn, 1) := by decide +kernel
theorem dL_law_764 : decode cL_law 764 = .ok (.aload_n 1, 1) := by decide +kernel
theorem dL_law_765 : decode cL_law 765 = .ok (.invokevirtual 121, 3) := by decide +kernel
theorem dL_law_768 : decode cL_law 768 = .ok (.aload_n 2, 1) := by decide +kernel
theorem dL_law_769 : decode cL_law 769 = .ok (.invokevirtual 125, 3) := by decide +kernel
theorem dL_law_772 : decode cL_law 772 = .ok (.lcmp, 1) := by decide +kernel
theorem dL_law_773 : decode cL_law 773 = .ok (.ifCond .eq 5, 3) := by decide +kernel
theorem dL_law_776 : decode cL_law 776 = .ok (.iconst 0, 1) := by decide +kernel
theorem dL_law_777 : decode cL_law 777 = .ok (.ireturn, 1) := by decide +kernel
theorem dL_law_778 : decode cL_law 778 = .ok (.iinc 3 6, 3) := by decide +kernel
theorem dL_law_781 : decode cL_law 781 = .ok (.goto (-763), 3) := by decide +kernel
theorem dL_law_784 : decode cL_law 784 = .ok (.iconst 1, 1) := by decide +kernel
theorem dL_law_785 : decode cL_law 785 = .ok (.ireturn, 1) := by decide +kernel
end
section
/-! the memory of the whole system as one function: cell number, place -> int; longs; the two moving references -/
abbrev Mem : Type := (Nat → Nat → Int32) × (Nat → Nat → Int64) × (Nat → Nat)
def gi (μ : Mem) (c k : Nat) : Int32 := μ.1 c k
def gl (μ : Mem) (c k : Nat) : Int64 := μ.2.1 c k
def gp (μ : Mem) (k : Nat) : Nat := μ.2.2 k
def ui (μ : Mem) (c k : Nat) (v : Int32) : Mem := (fun a b => if a = c ∧ b = k then v else μ.1 a b, μ.2)
def ul (μ : Mem) (c k : Nat) (v : Int64) : Mem := (μ.1, fun a b => if a = c ∧ b = k then v else μ.2.1 a b, μ.2.2)
def up (μ : Mem) (k v : Nat) : Mem := (μ.1, μ.2.1, fun b => if b = k then v else μ.2.2 b)
def ua (μ : Mem) (c : Nat) (f : Nat → Int32) : Mem := (fun a b => if a = c then f b else μ.1 a b, μ.2)
def m0 : Mem := (fun _ _ => 0, fun _ _ => 0, fun _ => 0)
/-- the cells' shapes: 0 int row, 1 boolean row, 2 Scene row, 3 + class: an object; how many places -/
def shT : List (Nat × Nat) := [(11, 13), (9, 7), (0, 200), (5, 12), (0, 5), (0, 5), (0, 5), (0, 5), (0, 5), (0, 6), (5, 12), (0, 5), (0, 5), (0, 5), (0, 5), (0, 5), (0, 6), (10, 7), (0, 5), (0, 5), (8, 3), (2, 10),
  (10, 7), (0, 5), (0, 5), (10, 7), (0, 5), (0, 5), (10, 7), (0, 5), (0, 5), (10, 7), (0, 5), (0, 5), (10, 7), (0, 5), (0, 5), (10, 7), (0, 5), (0, 5), (10, 7), (0, 5), (0, 5), (10, 7), (0, 5), (0, 5), (10, 7), (0, 5), (0, 5), (10, 7), (0, 5), (0, 5),
  (2, 2), (10, 7), (0, 5), (0, 5), (10, 7), (0, 5), (0, 5), (4, 7), (0, 186), (0, 5), (0, 5), (0, 5), (3, 7), (0, 5), (0, 5), (0, 5), (6, 2), (0, 64), (0, 5), (7, 3), (0, 5), (0, 5), (0, 7),
  (12, 30), (0, 200), (0, 12), (0, 5), (0, 10), (0, 10), (0, 10), (0, 10), (0, 12), (0, 15), (0, 30), (1, 2), (0, 150), (0, 5), (0, 5), (0, 186), (0, 5), (0, 5), (0, 5), (0, 64)]
def NC : Nat := 95
def shp (c : Nat) : Nat × Nat := shT.getD c (13, 0)
/-- a field's kind: 0 int, 1 long, 2 a fixed reference, 3 a moving one, 4 boolean -/
def kndT : List (List Nat) := [[2, 0, 0, 0, 2, 2, 0], [2, 2, 0, 2, 2, 0, 0], [0, 2, 2, 2, 0, 2, 2, 0, 2, 0, 0, 0], [2, 2], [2, 2, 0], [2, 0, 0], [2, 0, 0, 0, 4, 4, 4], [0, 0, 0, 0, 0, 2, 2], [2, 3, 3, 2, 2, 2, 0, 2, 2, 2, 2, 2, 1],
  [0, 1, 2, 0, 0, 0, 0, 0, 0, 2, 0, 2, 2, 2, 2, 2, 2, 2, 2, 2, 2, 0, 2, 2, 0, 2, 2, 2, 2, 2]]
def knd (ci k : Nat) : Nat := (kndT.getD ci []).getD k 0
/-- where a fixed reference leads, from the object's number on -/
def offT : List (List Nat) := [[1, 0, 0, 0, 2, 3, 0], [1, 2, 0, 3, 4, 0, 0], [0, 1, 2, 3, 0, 4, 5, 0, 6, 0, 0, 0], [1, 2], [1, 2, 0], [1, 0, 0], [1, 0, 0, 0, 0, 0, 0], [0, 0, 0, 0, 0, 1, 2], [1, 0, 0, 17, 20, 52, 0, 59, 64, 68, 71, 74, 0],
  [0, 0, 1, 0, 0, 0, 0, 0, 0, 2, 0, 3, 4, 5, 6, 7, 8, 9, 10, 11, 12, 0, 13, 14, 0, 15, 16, 17, 18, 19]]
def off (ci k : Nat) : Nat := (offT.getD ci []).getD k 0
def tr (ad : Nat → Nat) (v : Value) : Value := match v with
  | .ref c => .ref (ad c)
  | w => w
def fldA (μ : Mem) (ci c k : Nat) : Value := match knd ci k with
  | 0 => .int (gi μ c k)
  | 1 => .long (gl μ c k)
  | 2 => .ref (c + off ci k)
  | 3 => .ref (gp μ k)
  | _ => .int (gi μ c k)
abbrev K3 : Type := ClassId × ClassId × ClassId
def cellE (ad : Nat → Nat) (K : K3) (μ : Mem) (c : Nat) : va_E := match shp c with
  | (0, n) => .inl (K.1, n, .inl (gi μ c))
  | (1, n) => .inl (K.2.1, n, .inl (gi μ c))
  | (2, n) => .inl (K.2.2, n, .inr (.inr (.inr (.inr (fun j => some (ad (c + 1 + 3 * j)))))))
  | (ci + 3, n) => .inr (ci, (List.range n).map (fun k => tr ad (fldA μ ci c k)))
def wd (ad : Nat → Nat) (K : K3) (μ : Mem) : va_W := (List.range NC).map (fun c => (ad c, cellE ad K μ c))
def tysK (K : K3) : List (ClassId × FieldType) := [(K.1, .int), (K.2.1, .boolean), (K.2.2, .object "DoorCases$Scene")]
def inW (ad : Nat → Nat) : Nat → Prop := fun q => ∃ c, c < NC ∧ q = ad c
theorem wd_at {ad : Nat → Nat} {K : K3} {μ : Mem} {c : Nat} (h : c < NC) : (wd ad K μ)[c]? = some (ad c, cellE ad K μ c) := by
  simp [wd, h]
theorem wd_len {ad : Nat → Nat} {K : K3} {μ : Mem} : (wd ad K μ).length = NC := by simp [wd]
theorem wd_lt {ad : Nat → Nat} {K : K3} {μ : Mem} {c : Nat} {q : Nat × va_E} (h : (wd ad K μ)[c]? = some q) : c < NC ∧ q = (ad c, cellE ad K μ c) := by
  have h1 : c < (wd ad K μ).length := (List.getElem?_eq_some_iff.mp h).1
  rw [wd_len] at h1
  rw [wd_at h1] at h
  exact ⟨h1, (Option.some.inj h).symm⟩
theorem shp_lt {c a b : Nat} (h : shp c = (a, b)) (hb : 0 < b) : c < NC := by
  rcases Nat.lt_or_ge c NC with h1 | h1
  · exact h1
  · have h2 : shT.length ≤ c := h1
    rw [shp, List.getD_eq_getElem?_getD, List.getElem?_eq_none h2] at h
    simp at h
    omega
theorem wd_set {ad : Nat → Nat} {K : K3} {μ μ' : Mem} {c : Nat} {e : va_E} (h : c < NC) (he : e = cellE ad K μ' c) (ho : ∀ d, d ≠ c → cellE ad K μ' d = cellE ad K μ d) : (wd ad K μ).set c (ad c, e) = wd ad K μ' := by
  subst he
  apply List.ext_getElem?
  intro i
  rw [List.getElem?_set]
  by_cases hi : c = i
  · subst hi
    rw [if_pos rfl, wd_len, if_pos h, wd_at h]
  · rw [if_neg hi]
    rcases Nat.lt_or_ge i NC with h1 | h1
    · rw [wd_at h1, wd_at h1, ho i (fun q => hi q.symm)]
    · rw [List.getElem?_eq_none (by rw [wd_len]; exact h1), List.getElem?_eq_none (by rw [wd_len]; exact h1)]
theorem wd_D {A : Nat → Prop} {ad : Nat → Nat} {K : K3} {μ μ' : Mem} (h : va_D A (wd ad K μ)) : va_D A (wd ad K μ') := by
  refine ⟨fun i j p q hi hj e => ?_, fun k q hk => ?_⟩
  · obtain ⟨i1, rfl⟩ := wd_lt hi
    obtain ⟨j1, rfl⟩ := wd_lt hj
    exact h.1 i j _ _ (wd_at i1) (wd_at j1) e
  · obtain ⟨k1, rfl⟩ := wd_lt hk
    have h2 := h.2 k (ad k, cellE ad K μ k) (wd_at k1)
    exact h2
theorem wd_A {A : Nat → Prop} {ad : Nat → Nat} {K : K3} {μ : Mem} (h : va_D A (wd ad K μ)) : ∀ q, inW ad q → A q := by
  rintro q ⟨c, hc, rfl⟩
  exact h.2 c _ (wd_at hc)
theorem wd_W {A : Nat → Prop} {ad : Nat → Nat} {K : K3} {μ : Mem} (h : va_D A (wd ad K μ)) : va_D (inW ad) (wd ad K μ) := ⟨h.1, fun k q hk => by
  obtain ⟨k1, rfl⟩ := wd_lt hk
  exact ⟨k, k1, rfl⟩⟩
theorem cell_int {ad : Nat → Nat} {K : K3} {μ : Mem} {c n : Nat} (h : shp c = (0, n)) : cellE ad K μ c = .inl (K.1, n, .inl (gi μ c)) := by
  unfold cellE; rw [h]
theorem cell_bool {ad : Nat → Nat} {K : K3} {μ : Mem} {c n : Nat} (h : shp c = (1, n)) : cellE ad K μ c = .inl (K.2.1, n, .inl (gi μ c)) := by
  unfold cellE; rw [h]
theorem cell_sc {ad : Nat → Nat} {K : K3} {μ : Mem} {c n : Nat} (h : shp c = (2, n)) : cellE ad K μ c = .inl (K.2.2, n, .inr (.inr (.inr (.inr (fun j => some (ad (c + 1 + 3 * j))))))) := by
  unfold cellE; rw [h]
theorem cell_obj {ad : Nat → Nat} {K : K3} {μ : Mem} {c ci n : Nat} (h : shp c = (ci + 3, n)) : cellE ad K μ c = .inr (ci, (List.range n).map (fun k => tr ad (fldA μ ci c k))) := by
  unfold cellE; rw [h]
/-- a write to cell c leaves the others -/
theorem cell_ui {ad : Nat → Nat} {K : K3} {μ : Mem} {c k : Nat} {v : Int32} {d : Nat} (h : d ≠ c) : cellE ad K (ui μ c k v) d = cellE ad K μ d := by
  have hg : ∀ j, gi (ui μ c k v) d j = gi μ d j := fun j => by simp [gi, ui, h]
  have hf : gi (ui μ c k v) d = gi μ d := funext hg
  have hF : ∀ ci j, fldA (ui μ c k v) ci d j = fldA μ ci d j := fun ci j => by
    unfold fldA; rw [hg]; rfl
  unfold cellE
  split <;> simp only [hf, hF]
theorem cell_ua {ad : Nat → Nat} {K : K3} {μ : Mem} {c : Nat} {f : Nat → Int32} {d : Nat} (h : d ≠ c) : cellE ad K (ua μ c f) d = cellE ad K μ d := by
  have hg : ∀ j, gi (ua μ c f) d j = gi μ d j := fun j => by simp [gi, ua, h]
  have hf : gi (ua μ c f) d = gi μ d := funext hg
  have hF : ∀ ci j, fldA (ua μ c f) ci d j = fldA μ ci d j := fun ci j => by
    unfold fldA; rw [hg]; rfl
  unfold cellE
  split <;> simp only [hf, hF]
theorem cell_ul {ad : Nat → Nat} {K : K3} {μ : Mem} {c k : Nat} {v : Int64} {d : Nat} (h : d ≠ c) : cellE ad K (ul μ c k v) d = cellE ad K μ d := by
  have hg : ∀ j, gl (ul μ c k v) d j = gl μ d j := fun j => by simp [gl, ul, h]
  have hF : ∀ ci j, fldA (ul μ c k v) ci d j = fldA μ ci d j := fun ci j => by
    unfold fldA; rw [hg]; rfl
  unfold cellE
  split <;> first | rfl | simp only [hF]
end
section
/-! the words: all of the tables' that are good for a callee too -/
def tw : List Cond := lw_tbl.filter goodWord
theorem mem_tw {w : Cond} (h : w ∈ lw_tbl) (g : goodWord w = true) : w ∈ tw := List.mem_filter.mpr ⟨h, g⟩
theorem tw_good {w : Cond} (h : w ∈ tw) : (w.onTables && w.keeps) = true ∨ ∃ ty, w = .arrayClass ty := good_of_word (List.mem_filter.mp h).2
def wA (y : MethodName) (cc : ByteArray) (nL : Nat) (ret : Option FieldType) : List Cond := .code y cc nL ret :: tw
theorem wA_good {y : MethodName} {cc : ByteArray} {nL : Nat} {ret : Option FieldType} (h : Cond.code y cc nL ret ∈ tw) : GoodIn tw (wA y cc nL ret) := by
  intro w hw
  rcases List.mem_cons.mp hw with rfl | hw
  · exact ⟨h, tw_good h⟩
  · exact ⟨hw, tw_good hw⟩
def markF (j : Nat) : Int32 := ([1, 10, 100, 1000, 10000, 100000] : List Int32).getD j 0
def aboveF (j : Nat) : Int32 := ([-1, 0, 0, 1, 2, 0] : List Int32).getD j 0
/-- what holds of the state beside the heap's cells -/
def St (D : va_G) (K : K3) (A : Nat → Prop) (z : Nat × Nat) (U : State) (H : Heap) : Prop :=
  va_K D vwCl (tysK K) U ∧ va_Z "DoorCases" "KIND_MARK" "[I" (.ref z.1) A U H ∧ va_T .int z.1 6 (fun j => .int (markF j)) A U H ∧ va_Z "DoorCases" "KIND_ABOVE" "[I" (.ref z.2) A U H ∧ va_T .int z.2 6 (fun j => .int (aboveF j)) A U H ∧
  va_Nw (.methodLinkNest RX7 66 yX8_lossOf "DoorCases") U ∧ va_Nw (.methodLinkNest RX1 75 yX8_lossOf "DoorCases") U
theorem St.same {D : va_G} {K : K3} {A : Nat → Prop} {z : Nat × Nat} {u U : State} {H : Heap} (h : St D K A z u H) (hv : u.vm = U.vm) : St D K A z U H := by
  obtain ⟨h1, h2, h3, h4, h5, h6, h7⟩ := h
  have hA : u.vm.Alike U.vm := by rw [hv]; exact Vm.Alike.refl U.vm
  exact ⟨va_K.moved hA h1, va_Z.moved hA h2, va_T.moved hA h3, va_Z.moved hA h4, va_T.moved hA h5, va_Nw.same rfl hv h6, va_Nw.same rfl hv h7⟩
theorem St.call {D : va_G} {K : K3} {A B : Nat → Prop} {z : Nat × Nat} {s U : State} {H : Heap} {locs : List Loc} (h : St D K A z s s.heap) (hS : va_S A s.heap H locs) (hW : s.WarmedH U.vm) (hU : U.heap = H) (hAB : ∀ q, B q → A q) : St D K B z U U.heap := by
  obtain ⟨h1, h2, h3, h4, h5, h6, h7⟩ := h
  subst hU
  have hA : s.vm.Alike U.vm := hW.alike
  have hk : ∀ a : Nat, a < s.heap.size → ¬ A a → U.heap[a]? = s.heap[a]? := hS.2.1
  exact ⟨va_K.moved hA h1, (va_Z.moved hA (h2.kept hk)).narrow hAB, (va_T.moved hA (h3.kept hk)).narrow hAB, (va_Z.moved hA (h4.kept hk)).narrow hAB, (va_T.moved hA (h5.kept hk)).narrow hAB, va_Nw.warmM hW h6, va_Nw.warmM hW h7⟩
/-! the frame's context in one tuple -/
abbrev XT : Type := Program × Launch × Env × Room × State × MethodId × Array Value × List Frame × Method × Code × (State → Prop) × va_G × K3 × (Nat → Nat) × (Nat → Prop) × Nat × (Nat × Nat)
abbrev xp (X : XT) : Program := X.1
abbrev xl (X : XT) : Launch := X.2.1
abbrev xe (X : XT) : Env := X.2.2.1
abbrev xR (X : XT) : Room := X.2.2.2.1
abbrev xs (X : XT) : State := X.2.2.2.2.1
abbrev xm (X : XT) : MethodId := X.2.2.2.2.2.1
abbrev xa (X : XT) : Array Value := X.2.2.2.2.2.2.1
abbrev xb (X : XT) : List Frame := X.2.2.2.2.2.2.2.1
abbrev xh (X : XT) : Method := X.2.2.2.2.2.2.2.2.1
abbrev xc (X : XT) : Code := X.2.2.2.2.2.2.2.2.2.1
abbrev xQ (X : XT) : State → Prop := X.2.2.2.2.2.2.2.2.2.2.1
abbrev xD (X : XT) : va_G := X.2.2.2.2.2.2.2.2.2.2.2.1
abbrev xK (X : XT) : K3 := X.2.2.2.2.2.2.2.2.2.2.2.2.1
abbrev xd (X : XT) : Nat → Nat := X.2.2.2.2.2.2.2.2.2.2.2.2.2.1
abbrev xA (X : XT) : Nat → Prop := X.2.2.2.2.2.2.2.2.2.2.2.2.2.2.1
abbrev xn (X : XT) : Nat := X.2.2.2.2.2.2.2.2.2.2.2.2.2.2.2.1
abbrev xz (X : XT) : Nat × Nat := X.2.2.2.2.2.2.2.2.2.2.2.2.2.2.2.2
def lm (ad : Nat → Nat) (nL : Nat) (L : List (Option Value)) (ls : Array Slot) : Prop := lv_has ls nL [] ∧ ∀ (i : Nat) (v : Value), L[i]? = some (some v) → v.category = 1 ∧ ls[i]? = some (.val (tr ad v))
theorem tr_cat (ad : Nat → Nat) (v : Value) : (tr ad v).category = v.category := by cases v <;> rfl
theorem lm_list {ad : Nat → Nat} {nL : Nat} {L : List (Option Value)} {ls : Array Slot} (h : lm ad nL L ls) : ∃ lv, lv_has ls nL lv ∧ (∀ q ∈ lv, q.2.category = 1) ∧ ∀ (j : Nat) (v : Value), L[j]? = some (some v) → (j, tr ad v) ∈ lv := by
  refine ⟨(List.range L.length).filterMap (fun i => match L[i]? with | some (some v) => some (i, tr ad v) | _ => none), ⟨h.1.1, h.1.2.1, fun q hq => ?_⟩, fun q hq => ?_, fun j v hj => ?_⟩
  · obtain ⟨i, -, hi⟩ := List.mem_filterMap.mp hq
    split at hi
    · rename_i v hv
      cases hi
      exact (h.2 i v hv).2
    · cases hi
  · obtain ⟨i, -, hi⟩ := List.mem_filterMap.mp hq
    split at hi
    · rename_i v hv
      cases hi
      show (tr ad v).category = 1
      rw [tr_cat]
      exact (h.2 i v hv).1
    · cases hi
  · refine List.mem_filterMap.mpr ⟨j, List.mem_range.mpr (List.getElem?_eq_some_iff.mp hj).1, ?_⟩
    rw [hj]
theorem lm_set {ad : Nat → Nat} {nL : Nat} {L : List (Option Value)} {ls' : Array Slot} {i : Nat} {v : Value} {lv : List (Nat × Value)} (hc : v.category = 1) (hq1 : ∀ q ∈ lv, q.2.category = 1) (hq : ∀ (j : Nat) (w : Value), L[j]? = some (some w) → w.category = 1 ∧ (j, tr ad w) ∈ lv)
    (h : lv_has ls' nL ((i, tr ad v) :: lv.filter (fun q => !(q.1 == i) && !(q.1 + 1 == i && q.2.category == 2)))) : lm ad nL (L.set i (some v)) ls' := by
  refine ⟨⟨h.1, h.2.1, fun q hq => by cases hq⟩, fun j w hj => ?_⟩
  rw [List.getElem?_set] at hj
  by_cases e : i = j
  · subst e
    rw [if_pos rfl] at hj
    split at hj
    · cases hj
      exact ⟨hc, h.2.2 _ List.mem_cons_self⟩
    · cases hj
  · rw [if_neg e] at hj
    obtain ⟨h1, h2⟩ := hq j w hj
    refine ⟨h1, h.2.2 (j, tr ad w) (List.mem_cons_of_mem _ (List.mem_filter.mpr ⟨h2, ?_⟩))⟩
    have h3 := hq1 _ h2
    have n1 : (j == i) = false := by simpa using fun q => e q.symm
    have n2 : ((tr ad w).category == 2) = false := by rw [h3]; rfl
    simp only [n1, n2, Bool.and_false, Bool.not_false, Bool.and_self]
/-- the machine, now at place pc of this frame with the locals L, the operands st, the memory μ, comes to the frame's end -/
def V (X : XT) (pc : Nat) (L : List (Option Value)) (st : List Value) (μ : Mem) : Prop :=
  ∀ (ls : Array Slot) (H : Heap) (locs : List Loc), lm (xd X) (xn X) L ls → va_P (xD X) vwCl (wd (xd X) (xK X) μ) H → va_S (xA X) (xs X).heap H locs → W (xp X) (xl X) (xe X) (xR X) (xs X) (xm X) (xa X) (xb X) (xh X) (xc X) H locs 0 0 (xQ X) (F0 (xm X) pc ls (st.map (tr (xd X))))
def Ok (X : XT) (cc : ByteArray) (own : String) (d : Nat) : Prop :=
  (xp X).tables.exec = Jvm.exec ∧ (xc X).code = cc ∧ (xc X).maxLocals = xn X ∧ (xs X).vm.findClass own = some (xm X).cls ∧ (∀ w ∈ tw, w.before (xa X) (xs X) = true) ∧ St (xD X) (xK X) (xA X) (xz X) (xs X) (xs X).heap ∧ va_D (xA X) (wd (xd X) (xK X) m0) ∧ (xh X).locks = false ∧ d ≤ (xR X).frames ∧ 40 * d ≤ (xR X).locals
abbrev Post : Type := Option Value → Mem → Prop
abbrev Tr : Type := List Value → Mem → Post → Prop
def QQ (D : va_G) (K : K3) (ad : Nat → Nat) (P : Post) : Array Value → State → Outcome → State → Prop := fun _ st oc t => (∃ (r : Option Value) (μ' : Mem), oc = .returned (r.map (tr ad)) ∧ P r μ' ∧ va_P D vwCl (wd ad K μ') t.heap) ∧ va_F (inW ad) st t
def OkM (X : XT) (cc : ByteArray) (own : String) (d : Nat) (ret : Option FieldType) (P : Post) : Prop :=
  Ok X cc own d ∧ (xh X).sig.returnType = ret ∧ xQ X = MQ (xb X) (QQ (xD X) (xK X) (xd X) P) (xa X) (xs X) 0 0 (inW (xd X)) ∧ xA X = inW (xd X)
def rmd (d : Nat) : Room := { frames := d, cells := 0, slots := 0, locals := 40 * d }
/-- a method's contract: from every memory and arguments of which S holds, it comes to its end with P -/
def Sp (y : MethodName) (cc : ByteArray) (nL : Nat) (ret : Option FieldType) (d : Nat) (S : Tr) : Prop :=
  ∀ (l : Launch) (D : va_G) (K : K3) (ad : Nat → Nat) (z : Nat × Nat) (av : List Value) (μ : Mem) (P : Post), S av μ P →
    Met l y (wA y cc nL ret) (rmd d) (va_Pc (av.map (tr ad)) (fun U => va_P D vwCl (wd ad K μ) U.heap ∧ St D K (inW ad) z U U.heap ∧ va_D (inW ad) (wd ad K m0))) (QQ D K ad P) 0 0 (inW ad)
theorem sp_of {y : MethodName} {cc : ByteArray} {nL : Nat} {ret : Option FieldType} {d : Nat} {S : Tr} (hy : plainName y.cls = true) (hc1 : ∀ av μ P, S av μ P → av.length ≤ nL ∧ ∀ v ∈ av, v.category = 1)
    (body : ∀ (X : XT) (P : Post), OkM X cc y.cls d ret P → ∀ av μ, S av μ P → xn X = nL → V X 0 (av.map some ++ List.replicate (nL - av.length) none) [] μ) : Sp y cc nL ret d S := by
  intro l D K ad z av μ P hS
  obtain ⟨hlen, hcat⟩ := hc1 av μ P hS
  refine Met.ofW (cc := cc) (maxL := nL) (ret := ret) hy rfl ?_
  intro p e s m args below meth c s₁ B hml hv
  obtain ⟨rfl, hP, hSt, hD⟩ := hv
  have hts := atoms_spec (ws := wA y cc nL ret) B.pre
  have hown : s.vm.findClass y.cls = some m.cls := findClass_of_methodNamed B.named
  have hsl : ∀ (vs : List Value), (∀ v ∈ vs, v.category = 1) → lg_sl (vs.map (tr ad)) = vs.map (fun v => .val (tr ad v)) := by
    intro vs h
    induction vs with
    | nil => rfl
    | cons v t ih =>
      have h1 := h v List.mem_cons_self
      simp only [lg_sl, List.map_cons, List.flatMap_cons] at ih ⊢
      rw [ih (fun w hw => h w (List.mem_cons_of_mem _ hw)), if_neg (by rw [tr_cat]; omega)]
      rfl
  have hl := lv_entry (av.map (tr ad)) (n := nL) (by rw [hsl av hcat, List.length_map]; exact hlen)
  rw [lg_entry_eq]
  generalize hls : (lg_sl (av.map (tr ad)) ++ List.replicate (nL - (lg_sl (av.map (tr ad))).length) Slot.unset).toArray = ls at hl ⊢
  have b := body (p, l, e, (headSpec (wA y cc nL ret) (rmd d)).room, s, m, (av.map (tr ad)).toArray, below, meth, c, MQ below (QQ D K ad P) (av.map (tr ad)).toArray s 0 0 (inW ad), D, K, ad, inW ad, nL, z) P
    ⟨⟨B.exec, B.bytes, hml, hown, fun w hw => hts w (List.mem_cons_of_mem _ hw), hSt, hD, B.notSynchronized, Nat.le_refl _, Nat.le_refl _⟩, B.returns, rfl, rfl⟩ av μ hS rfl
  refine b ls s.heap [] ⟨⟨hl.1, hl.2.1, fun q hq => by cases hq⟩, fun i v hi => ?_⟩ hP va_S.rf
  rw [List.getElem?_append] at hi
  split at hi
  · rename_i hlt
    rw [List.length_map] at hlt
    rw [List.getElem?_map, List.getElem?_eq_getElem hlt] at hi
    cases hi
    refine ⟨hcat _ (List.getElem_mem hlt), ?_⟩
    rw [← hls]
    show ((lg_sl (av.map (tr ad)) ++ _).toArray)[i]? = _
    rw [List.getElem?_toArray, hsl av hcat, List.getElem?_append_left (by simpa using hlt), List.getElem?_map, List.getElem?_eq_getElem hlt]
    rfl
  · rw [List.getElem?_replicate] at hi
    split at hi <;> cases hi
end
section
section VROWS
variable {X : XT} {cc : ByteArray} {own : String} {d pc : Nat} {L : List (Option Value)} {st : List Value} {μ : Mem}
theorem v_iconst (hX : Ok X cc own d) {n : Int} (v : Int32) (hd : decode cc pc = .ok (.iconst n, 1)) (hv : Int32.ofInt n = v) (k : V X (pc + 1) L (.int v :: st) μ) : V X pc L st μ := fun ls H locs hm hP hS => lv_iconst hX.1 hX.2.1 hd hv (k ls H locs hm hP hS)
theorem v_bipush (hX : Ok X cc own d) {n : Int} (v : Int32) (hd : decode cc pc = .ok (.bipush n, 2)) (hv : (Int8.ofInt n).toInt32 = v) (k : V X (pc + 2) L (.int v :: st) μ) : V X pc L st μ := fun ls H locs hm hP hS => lv_bipush hX.1 hX.2.1 hd hv (k ls H locs hm hP hS)
theorem v_sipush (hX : Ok X cc own d) {n : Int} (v : Int32) (hd : decode cc pc = .ok (.sipush n, 3)) (hv : (Int16.ofInt n).toInt32 = v) (k : V X (pc + 3) L (.int v :: st) μ) : V X pc L st μ := fun ls H locs hm hP hS => lv_sipush hX.1 hX.2.1 hd hv (k ls H locs hm hP hS)
theorem v_lconst (hX : Ok X cc own d) {n : Fin 2} (v : Int64) (hd : decode cc pc = .ok (.lconst n, 1)) (hv : Int64.ofNat (n : Nat) = v) (k : V X (pc + 1) L (.long v :: st) μ) : V X pc L st μ := fun ls H locs hm hP hS => lv_lconst hX.1 hX.2.1 hd hv (k ls H locs hm hP hS)
theorem v_ldc (hX : Ok X cc own d) {i : Nat} (v : Int32) (hd : decode cc pc = .ok (.ldc i, 2)) (hw : Cond.constant own i v ∈ tw) (k : V X (pc + 2) L (.int v :: st) μ) : V X pc L st μ := fun ls H locs hm hP hS => lv_ldc hX.1 hX.2.1 hX.2.2.2.1 (hX.2.2.2.2.1 _ hw) hd (k ls H locs hm hP hS)
theorem v_ldcw (hX : Ok X cc own d) {i : Nat} (v : Int32) (hd : decode cc pc = .ok (.ldc_w i, 3)) (hw : Cond.constant own i v ∈ tw) (k : V X (pc + 3) L (.int v :: st) μ) : V X pc L st μ := fun ls H locs hm hP hS => lv_ldcw hX.1 hX.2.1 hX.2.2.2.1 (hX.2.2.2.2.1 _ hw) hd (k ls H locs hm hP hS)
theorem v_ldc2 (hX : Ok X cc own d) {i : Nat} (v : Int64) (hd : decode cc pc = .ok (.ldc2_w i, 3)) (hw : Cond.constantLong own i v ∈ tw) (k : V X (pc + 3) L (.long v :: st) μ) : V X pc L st μ := fun ls H locs hm hP hS => lv_ldc2 hX.1 hX.2.1 hX.2.2.2.1 (hX.2.2.2.2.1 _ hw) hd (k ls H locs hm hP hS)
theorem v_iload_n (hX : Ok X cc own d) {i : Fin 4} {x : Int32} (hd : decode cc pc = .ok (.iload_n i, 1)) (hl : L[(i : Nat)]? = some (some (.int x))) (k : V X (pc + 1) L (.int x :: st) μ) : V X pc L st μ := fun ls H locs hm hP hS => lv_iload_n hX.1 hX.2.1 hd rfl (hm.2 _ _ hl).2 (k ls H locs hm hP hS)
theorem v_iload (hX : Ok X cc own d) {i : Nat} {x : Int32} (hd : decode cc pc = .ok (.iload i, 2)) (hl : L[i]? = some (some (.int x))) (k : V X (pc + 2) L (.int x :: st) μ) : V X pc L st μ := fun ls H locs hm hP hS => lv_iload hX.1 hX.2.1 hd (hm.2 _ _ hl).2 (k ls H locs hm hP hS)
theorem v_aload_n (hX : Ok X cc own d) {i : Fin 4} {x : Nat} (hd : decode cc pc = .ok (.aload_n i, 1)) (hl : L[(i : Nat)]? = some (some (.ref x))) (k : V X (pc + 1) L (.ref x :: st) μ) : V X pc L st μ := fun ls H locs hm hP hS => lv_aload_n hX.1 hX.2.1 hd rfl (hm.2 _ _ hl).2 (k ls H locs hm hP hS)
theorem v_istore_n (hX : Ok X cc own d) {i : Fin 4} {x : Int32} (hd : decode cc pc = .ok (.istore_n i, 1)) (hn : (i : Nat) < xn X) (k : V X (pc + 1) (L.set i (some (.int x))) st μ) : V X pc L (.int x :: st) μ := fun ls H locs hm hP hS => by
  obtain ⟨lv, h1, h2, h3⟩ := lm_list hm
  exact lv_istore_n hX.1 hX.2.1 hd rfl h1 hn rfl (fun ls' h' => k ls' H locs (lm_set (v := .int x) rfl h2 (fun j w hj => ⟨(hm.2 j w hj).1, h3 j w hj⟩) h') hP hS)
theorem v_istore (hX : Ok X cc own d) {i : Nat} {x : Int32} (hd : decode cc pc = .ok (.istore i, 2)) (hn : i < xn X) (k : V X (pc + 2) (L.set i (some (.int x))) st μ) : V X pc L (.int x :: st) μ := fun ls H locs hm hP hS => by
  obtain ⟨lv, h1, h2, h3⟩ := lm_list hm
  exact lv_istore hX.1 hX.2.1 hd h1 hn rfl (fun ls' h' => k ls' H locs (lm_set (v := .int x) rfl h2 (fun j w hj => ⟨(hm.2 j w hj).1, h3 j w hj⟩) h') hP hS)
theorem v_astore_n (hX : Ok X cc own d) {i : Fin 4} {x : Nat} (hd : decode cc pc = .ok (.astore_n i, 1)) (hn : (i : Nat) < xn X) (k : V X (pc + 1) (L.set i (some (.ref x))) st μ) : V X pc L (.ref x :: st) μ := fun ls H locs hm hP hS => by
  obtain ⟨lv, h1, h2, h3⟩ := lm_list hm
  exact lv_astore_n hX.1 hX.2.1 hd rfl h1 hn rfl (fun ls' h' => k ls' H locs (lm_set (v := .ref x) rfl h2 (fun j w hj => ⟨(hm.2 j w hj).1, h3 j w hj⟩) h') hP hS)
theorem v_iinc (hX : Ok X cc own d) {i : Nat} {n : Int} {x : Int32} (v : Int32) (hd : decode cc pc = .ok (.iinc i n, 3)) (hn : i < xn X) (hl : L[i]? = some (some (.int x))) (hv : Int32.ofInt n = v) (k : V X (pc + 3) (L.set i (some (.int (x + v)))) st μ) : V X pc L st μ := fun ls H locs hm hP hS => by
  obtain ⟨lv, h1, h2, h3⟩ := lm_list hm
  obtain ⟨q, hq⟩ := List.mem_iff_getElem?.mp (h3 i _ hl)
  exact lv_iinc hX.1 hX.2.1 hd h1 hq (by rw [hv]) hn rfl (fun ls' h' => k ls' H locs (lm_set (v := .int (x + v)) rfl h2 (fun j w hj => ⟨(hm.2 j w hj).1, h3 j w hj⟩) h') hP hS)
theorem v_iadd (hX : Ok X cc own d) {x y : Int32} (hd : decode cc pc = .ok (.iadd, 1)) (k : V X (pc + 1) L (.int (x + y) :: st) μ) : V X pc L (.int y :: .int x :: st) μ := fun ls H locs hm hP hS => lv_iadd hX.1 hX.2.1 hd (k ls H locs hm hP hS)
theorem v_isub (hX : Ok X cc own d) {x y : Int32} (hd : decode cc pc = .ok (.isub, 1)) (k : V X (pc + 1) L (.int (x - y) :: st) μ) : V X pc L (.int y :: .int x :: st) μ := fun ls H locs hm hP hS => lv_isub hX.1 hX.2.1 hd (k ls H locs hm hP hS)
theorem v_imul (hX : Ok X cc own d) {x y : Int32} (hd : decode cc pc = .ok (.imul, 1)) (k : V X (pc + 1) L (.int (x * y) :: st) μ) : V X pc L (.int y :: .int x :: st) μ := fun ls H locs hm hP hS => lv_imul hX.1 hX.2.1 hd (k ls H locs hm hP hS)
theorem v_iand (hX : Ok X cc own d) {x y : Int32} (hd : decode cc pc = .ok (.iand, 1)) (k : V X (pc + 1) L (.int (x &&& y) :: st) μ) : V X pc L (.int y :: .int x :: st) μ := fun ls H locs hm hP hS => lv_iand hX.1 hX.2.1 hd (k ls H locs hm hP hS)
theorem v_ior (hX : Ok X cc own d) {x y : Int32} (hd : decode cc pc = .ok (.ior, 1)) (k : V X (pc + 1) L (.int (x ||| y) :: st) μ) : V X pc L (.int y :: .int x :: st) μ := fun ls H locs hm hP hS => lv_ior hX.1 hX.2.1 hd (k ls H locs hm hP hS)
theorem v_ixor (hX : Ok X cc own d) {x y : Int32} (hd : decode cc pc = .ok (.ixor, 1)) (k : V X (pc + 1) L (.int (x ^^^ y) :: st) μ) : V X pc L (.int y :: .int x :: st) μ := fun ls H locs hm hP hS => lv_ixor hX.1 hX.2.1 hd (k ls H locs hm hP hS)
theorem v_ishl (hX : Ok X cc own d) {x y : Int32} (hd : decode cc pc = .ok (.ishl, 1)) (k : V X (pc + 1) L (.int (x <<< (y &&& 31)) :: st) μ) : V X pc L (.int y :: .int x :: st) μ := fun ls H locs hm hP hS => lv_ishl hX.1 hX.2.1 hd (k ls H locs hm hP hS)
theorem v_ishr (hX : Ok X cc own d) {x y : Int32} (hd : decode cc pc = .ok (.ishr, 1)) (k : V X (pc + 1) L (.int (x >>> (y &&& 31)) :: st) μ) : V X pc L (.int y :: .int x :: st) μ := fun ls H locs hm hP hS => lv_ishr hX.1 hX.2.1 hd (k ls H locs hm hP hS)
theorem v_idiv (hX : Ok X cc own d) {x y : Int32} (hd : decode cc pc = .ok (.idiv, 1)) (hne : ¬ y = 0) (k : V X (pc + 1) L (.int (x / y) :: st) μ) : V X pc L (.int y :: .int x :: st) μ := fun ls H locs hm hP hS => lv_idiv hX.1 hX.2.1 hd hne (k ls H locs hm hP hS)
theorem v_irem (hX : Ok X cc own d) {x y : Int32} (hd : decode cc pc = .ok (.irem, 1)) (hne : ¬ y = 0) (k : V X (pc + 1) L (.int (x - x / y * y) :: st) μ) : V X pc L (.int y :: .int x :: st) μ := fun ls H locs hm hP hS => lv_irem hX.1 hX.2.1 hd hne (k ls H locs hm hP hS)
theorem v_ineg (hX : Ok X cc own d) {x : Int32} (hd : decode cc pc = .ok (.ineg, 1)) (k : V X (pc + 1) L (.int (-x) :: st) μ) : V X pc L (.int x :: st) μ := fun ls H locs hm hP hS => lv_ineg hX.1 hX.2.1 hd (k ls H locs hm hP hS)
theorem v_iushr (hX : Ok X cc own d) {x y : Int32} (hd : decode cc pc = .ok (.iushr, 1)) (k : V X (pc + 1) L (.int ((x.toUInt32 >>> (y.toUInt32 &&& Int32.toUInt32 31)).toInt32) :: st) μ) : V X pc L (.int y :: .int x :: st) μ := fun ls H locs hm hP hS => lv_iushr hX.1 hX.2.1 hd rfl (k ls H locs hm hP hS)
theorem v_ladd (hX : Ok X cc own d) {x y : Int64} (hd : decode cc pc = .ok (.ladd, 1)) (k : V X (pc + 1) L (.long (x + y) :: st) μ) : V X pc L (.long y :: .long x :: st) μ := fun ls H locs hm hP hS => lv_ladd hX.1 hX.2.1 hd (k ls H locs hm hP hS)
theorem v_i2l (hX : Ok X cc own d) {x : Int32} (hd : decode cc pc = .ok (.i2l, 1)) (k : V X (pc + 1) L (.long x.toInt64 :: st) μ) : V X pc L (.int x :: st) μ := fun ls H locs hm hP hS => lv_i2l hX.1 hX.2.1 hd rfl (k ls H locs hm hP hS)
theorem v_dup (hX : Ok X cc own d) {v : Value} (hd : decode cc pc = .ok (.dup, 1)) (hv : v.category = 1) (k : V X (pc + 1) L (v :: v :: st) μ) : V X pc L (v :: st) μ := fun ls H locs hm hP hS => lv_dup hX.1 hX.2.1 hd (by rw [tr_cat]; exact hv) (k ls H locs hm hP hS)
theorem v_dup2 (hX : Ok X cc own d) {v w : Value} (hd : decode cc pc = .ok (.dup2, 1)) (hv : v.category = 1) (hw : w.category = 1) (k : V X (pc + 1) L (v :: w :: v :: w :: st) μ) : V X pc L (v :: w :: st) μ := fun ls H locs hm hP hS => lv_dup2_11 hX.1 hX.2.1 hd (by rw [tr_cat]; exact hv) (by rw [tr_cat]; exact hw) (k ls H locs hm hP hS)
theorem v_pop (hX : Ok X cc own d) {v : Value} (hd : decode cc pc = .ok (.pop, 1)) (hv : v.category = 1) (k : V X (pc + 1) L st μ) : V X pc L (v :: st) μ := fun ls H locs hm hP hS => lv_pop hX.1 hX.2.1 hd (by rw [tr_cat]; exact hv) (k ls H locs hm hP hS)
theorem v_goto (hX : Ok X cc own d) {o : Int} (t : Nat) (hd : decode cc pc = .ok (.goto o, 3)) (ht : (pc : Int) + o = (t : Int)) (k : V X t L st μ) : V X pc L st μ := fun ls H locs hm hP hS => lv_goto hX.1 hX.2.1 hd ht (k ls H locs hm hP hS)
theorem v_if_eq (hX : Ok X cc own d) {x : Int32} {o : Int} (t : Nat) (hd : decode cc pc = .ok (.ifCond .eq o, 3)) (ht : (pc : Int) + o = (t : Int)) (kt : x = 0 → V X t L st μ) (kf : ¬ x = 0 → V X (pc + 3) L st μ) : V X pc L (.int x :: st) μ := fun ls H locs hm hP hS => lv_if_eq hX.1 hX.2.1 hd ht (fun h => kt h ls H locs hm hP hS) (fun h => kf h ls H locs hm hP hS)
theorem v_if_ne (hX : Ok X cc own d) {x : Int32} {o : Int} (t : Nat) (hd : decode cc pc = .ok (.ifCond .ne o, 3)) (ht : (pc : Int) + o = (t : Int)) (kt : ¬ x = 0 → V X t L st μ) (kf : x = 0 → V X (pc + 3) L st μ) : V X pc L (.int x :: st) μ := fun ls H locs hm hP hS => lv_if_ne hX.1 hX.2.1 hd ht (fun h => kt h ls H locs hm hP hS) (fun h => kf h ls H locs hm hP hS)
theorem v_if_lt (hX : Ok X cc own d) {x : Int32} {o : Int} (t : Nat) (hd : decode cc pc = .ok (.ifCond .lt o, 3)) (ht : (pc : Int) + o = (t : Int)) (kt : x < 0 → V X t L st μ) (kf : ¬ x < 0 → V X (pc + 3) L st μ) : V X pc L (.int x :: st) μ := fun ls H locs hm hP hS => lv_if_lt hX.1 hX.2.1 hd ht (fun h => kt h ls H locs hm hP hS) (fun h => kf h ls H locs hm hP hS)
theorem v_if_ge (hX : Ok X cc own d) {x : Int32} {o : Int} (t : Nat) (hd : decode cc pc = .ok (.ifCond .ge o, 3)) (ht : (pc : Int) + o = (t : Int)) (kt : 0 ≤ x → V X t L st μ) (kf : ¬ 0 ≤ x → V X (pc + 3) L st μ) : V X pc L (.int x :: st) μ := fun ls H locs hm hP hS => lv_if_ge hX.1 hX.2.1 hd ht (fun h => kt h ls H locs hm hP hS) (fun h => kf h ls H locs hm hP hS)
theorem v_if_gt (hX : Ok X cc own d) {x : Int32} {o : Int} (t : Nat) (hd : decode cc pc = .ok (.ifCond .gt o, 3)) (ht : (pc : Int) + o = (t : Int)) (kt : 0 < x → V X t L st μ) (kf : ¬ 0 < x → V X (pc + 3) L st μ) : V X pc L (.int x :: st) μ := fun ls H locs hm hP hS => lv_if_gt hX.1 hX.2.1 hd ht (fun h => kt h ls H locs hm hP hS) (fun h => kf h ls H locs hm hP hS)
theorem v_if_le (hX : Ok X cc own d) {x : Int32} {o : Int} (t : Nat) (hd : decode cc pc = .ok (.ifCond .le o, 3)) (ht : (pc : Int) + o = (t : Int)) (kt : x ≤ 0 → V X t L st μ) (kf : ¬ x ≤ 0 → V X (pc + 3) L st μ) : V X pc L (.int x :: st) μ := fun ls H locs hm hP hS => lv_if_le hX.1 hX.2.1 hd ht (fun h => kt h ls H locs hm hP hS) (fun h => kf h ls H locs hm hP hS)
theorem v_icmp_eq (hX : Ok X cc own d) {x y : Int32} {o : Int} (t : Nat) (hd : decode cc pc = .ok (.if_icmp .eq o, 3)) (ht : (pc : Int) + o = (t : Int)) (kt : x = y → V X t L st μ) (kf : ¬ x = y → V X (pc + 3) L st μ) : V X pc L (.int y :: .int x :: st) μ := fun ls H locs hm hP hS => lv_icmp_eq hX.1 hX.2.1 hd ht (fun h => kt h ls H locs hm hP hS) (fun h => kf h ls H locs hm hP hS)
theorem v_icmp_ne (hX : Ok X cc own d) {x y : Int32} {o : Int} (t : Nat) (hd : decode cc pc = .ok (.if_icmp .ne o, 3)) (ht : (pc : Int) + o = (t : Int)) (kt : ¬ x = y → V X t L st μ) (kf : x = y → V X (pc + 3) L st μ) : V X pc L (.int y :: .int x :: st) μ := fun ls H locs hm hP hS => lv_icmp_ne hX.1 hX.2.1 hd ht (fun h => kt h ls H locs hm hP hS) (fun h => kf h ls H locs hm hP hS)
theorem v_icmp_lt (hX : Ok X cc own d) {x y : Int32} {o : Int} (t : Nat) (hd : decode cc pc = .ok (.if_icmp .lt o, 3)) (ht : (pc : Int) + o = (t : Int)) (kt : x < y → V X t L st μ) (kf : ¬ x < y → V X (pc + 3) L st μ) : V X pc L (.int y :: .int x :: st) μ := fun ls H locs hm hP hS => lv_icmp_lt hX.1 hX.2.1 hd ht (fun h => kt h ls H locs hm hP hS) (fun h => kf h ls H locs hm hP hS)
theorem v_icmp_ge (hX : Ok X cc own d) {x y : Int32} {o : Int} (t : Nat) (hd : decode cc pc = .ok (.if_icmp .ge o, 3)) (ht : (pc : Int) + o = (t : Int)) (kt : y ≤ x → V X t L st μ) (kf : ¬ y ≤ x → V X (pc + 3) L st μ) : V X pc L (.int y :: .int x :: st) μ := fun ls H locs hm hP hS => lv_icmp_ge hX.1 hX.2.1 hd ht (fun h => kt h ls H locs hm hP hS) (fun h => kf h ls H locs hm hP hS)
theorem v_icmp_gt (hX : Ok X cc own d) {x y : Int32} {o : Int} (t : Nat) (hd : decode cc pc = .ok (.if_icmp .gt o, 3)) (ht : (pc : Int) + o = (t : Int)) (kt : y < x → V X t L st μ) (kf : ¬ y < x → V X (pc + 3) L st μ) : V X pc L (.int y :: .int x :: st) μ := fun ls H locs hm hP hS => lv_icmp_gt hX.1 hX.2.1 hd ht (fun h => kt h ls H locs hm hP hS) (fun h => kf h ls H locs hm hP hS)
theorem v_icmp_le (hX : Ok X cc own d) {x y : Int32} {o : Int} (t : Nat) (hd : decode cc pc = .ok (.if_icmp .le o, 3)) (ht : (pc : Int) + o = (t : Int)) (kt : x ≤ y → V X t L st μ) (kf : ¬ x ≤ y → V X (pc + 3) L st μ) : V X pc L (.int y :: .int x :: st) μ := fun ls H locs hm hP hS => lv_icmp_le hX.1 hX.2.1 hd ht (fun h => kt h ls H locs hm hP hS) (fun h => kf h ls H locs hm hP hS)
theorem v_tableIn (hX : Ok X cc own d) {df lo hi : Int} {os : Array Int} {len : Nat} {x : Int32} {o : Int} (t : Nat) (hd : decode cc pc = .ok (.tableswitch df lo hi os, len)) (h1 : ¬ x.toInt < lo) (h2 : ¬ hi < x.toInt) (ho : os[(x.toInt - lo).toNat]? = some o) (ht : (pc : Int) + o = (t : Int)) (k : V X t L st μ) : V X pc L (.int x :: st) μ := fun ls H locs hm hP hS => lv_tableIn hX.1 hX.2.1 hd h1 h2 ho ht (k ls H locs hm hP hS)
theorem v_tableOut (hX : Ok X cc own d) {df lo hi : Int} {os : Array Int} {len : Nat} {x : Int32} (t : Nat) (hd : decode cc pc = .ok (.tableswitch df lo hi os, len)) (h : x.toInt < lo ∨ hi < x.toInt) (ht : (pc : Int) + df = (t : Int)) (k : V X t L st μ) : V X pc L (.int x :: st) μ := fun ls H locs hm hP hS => lv_tableOut hX.1 hX.2.1 hd h ht (k ls H locs hm hP hS)
theorem v_lookup (hX : Ok X cc own d) {df : Int} {ps : Array (Int × Int)} {len : Nat} {x : Int32} {o : Int} (t : Nat) (hd : decode cc pc = .ok (.lookupswitch df ps, len)) (hp : (ps.toList.zip (ps.toList.drop 1)).all (fun (a, next) => a.1 < next.1) = true) (ho : Op.lookupswitch.offset ps.toList df x.toInt = o) (ht : (pc : Int) + o = (t : Int)) (k : V X t L st μ) : V X pc L (.int x :: st) μ := fun ls H locs hm hP hS => lv_lookup hX.1 hX.2.1 hd hp ho ht (k ls H locs hm hP hS)
/-- forget locals -/
theorem v_forget (L' : List (Option Value)) (h : ∀ (i : Nat) (v : Value), L'[i]? = some (some v) → L[i]? = some (some v)) (k : V X pc L' st μ) : V X pc L st μ := fun ls H locs hm hP hS => k ls H locs ⟨hm.1, fun i v hi => hm.2 i v (h i v hi)⟩ hP hS
end VROWS
/-- what a field's link says: own class and place in its pool, class and place of the field, how many fields -/
def FL (own : String) (idx ci k N : Nat) : Prop := ∃ (C : String) (T : u_T) (ty0 : Nat → FieldType), vwCl[ci]? = some (C, T, N) ∧ k < N ∧ Cond.fieldLink own idx (T k).1 (T k).2.1 (T k).2.2.1 ∈ tw ∧ (∀ w ∈ u_ws C T N, w ∈ tw) ∧ (∀ j, j < N → parseFieldDescriptor (T j).2.2.1 = some (ty0 j)) ∧ (∀ a, a < N → ∀ b, b < N → a ≠ b → (T a).2.1 ≠ (T b).2.1)
/-- such a field may be written: not final, of the type ty -/
def FW (ci k : Nat) (ty : FieldType) : Prop := ∀ (C : String) (T : u_T) (N : Nat), vwCl[ci]? = some (C, T, N) → (T k).2.2.2 = false ∧ parseFieldDescriptor (T k).2.2.1 = some ty
section VMEM
variable {X : XT} {cc : ByteArray} {own : String} {d pc : Nat} {L : List (Option Value)} {st : List Value} {μ : Mem}
theorem v_get (hX : Ok X cc own d) {c ci k N idx : Nat} (hf : FL own idx ci k N) (hs : shp c = (ci + 3, N)) (hd : decode cc pc = .ok (.getfield idx, 3)) (kk : V X (pc + 3) L (fldA μ ci c k :: st) μ) : V X pc L (.ref c :: st) μ := fun ls H locs hm hP hS => by
  obtain ⟨C, T, ty0, h1, h2, h3, h4, h5, h6⟩ := hf
  exact va_get (v := tr (xd X) (fldA μ ci c k)) hX.1 hX.2.1 hX.2.2.2.2.1 h4 hX.2.2.2.1 hX.2.2.2.2.2.1.1 hP c ((wd_at (shp_lt hs (by omega))).trans (by rw [cell_obj hs])) h1 k h2 (hX.2.2.2.2.1 _ h3) (fun _ h9 => h9) (by simp [h2]) hd (kk ls H locs hm hP hS)
theorem v_geti (hX : Ok X cc own d) {c ci k N idx : Nat} (hf : FL own idx ci k N) (hs : shp c = (ci + 3, N)) (hk : knd ci k = 0) (hd : decode cc pc = .ok (.getfield idx, 3)) (kk : V X (pc + 3) L (.int (gi μ c k) :: st) μ) : V X pc L (.ref c :: st) μ := v_get hX hf hs hd (by rw [fldA, hk]; exact kk)
theorem v_getz (hX : Ok X cc own d) {c ci k N idx : Nat} (hf : FL own idx ci k N) (hs : shp c = (ci + 3, N)) (hk : knd ci k = 4) (hd : decode cc pc = .ok (.getfield idx, 3)) (kk : V X (pc + 3) L (.int (gi μ c k) :: st) μ) : V X pc L (.ref c :: st) μ := v_get hX hf hs hd (by rw [fldA, hk]; exact kk)
theorem v_getl (hX : Ok X cc own d) {c ci k N idx : Nat} (hf : FL own idx ci k N) (hs : shp c = (ci + 3, N)) (hk : knd ci k = 1) (hd : decode cc pc = .ok (.getfield idx, 3)) (kk : V X (pc + 3) L (.long (gl μ c k) :: st) μ) : V X pc L (.ref c :: st) μ := v_get hX hf hs hd (by rw [fldA, hk]; exact kk)
theorem v_getr (hX : Ok X cc own d) {c ci k N idx : Nat} (c' : Nat) (hf : FL own idx ci k N) (hs : shp c = (ci + 3, N)) (hk : knd ci k = 2) (hc : c + off ci k = c') (hd : decode cc pc = .ok (.getfield idx, 3)) (kk : V X (pc + 3) L (.ref c' :: st) μ) : V X pc L (.ref c :: st) μ := v_get hX hf hs hd (by rw [fldA, hk, hc]; exact kk)
theorem v_getp (hX : Ok X cc own d) {c ci k N idx : Nat} (c' : Nat) (hf : FL own idx ci k N) (hs : shp c = (ci + 3, N)) (hk : knd ci k = 3) (hc : gp μ k = c') (hd : decode cc pc = .ok (.getfield idx, 3)) (kk : V X (pc + 3) L (.ref c' :: st) μ) : V X pc L (.ref c :: st) μ := v_get hX hf hs hd (by rw [fldA, hk, hc]; exact kk)
theorem v_put (hX : Ok X cc own d) {c ci k N idx : Nat} {v : Value} {μ' : Mem} {ty : FieldType} (hf : FL own idx ci k N) (hw : FW ci k ty) (hs : shp c = (ci + 3, N)) (hn : narrow ty (tr (xd X) v) = tr (xd X) v) (hfit : fits ty (tr (xd X) v) = true) (ho : ∀ e, e ≠ c → cellE (xd X) (xK X) μ' e = cellE (xd X) (xK X) μ e) (hv : ∀ j, fldA μ' ci c j = if j = k then v else fldA μ ci c j) (hd : decode cc pc = .ok (.putfield idx, 3)) (kk : V X (pc + 3) L st μ') : V X pc L (v :: .ref c :: st) μ := fun ls H locs hm hP hS => by
  obtain ⟨C, T, ty0, h1, h2, h3, h4, h5, h6⟩ := hf
  obtain ⟨h7, h8⟩ := hw C T N h1
  refine va_put (D := xD X) (v := tr (xd X) v) hX.1 hX.2.1 hX.2.2.2.2.1 h4 ty0 h5 h6 hX.2.2.2.1 hX.2.2.2.2.2.1.1 hP (wd_D hX.2.2.2.2.2.2.1) hS c ((wd_at (shp_lt hs (by omega))).trans (by rw [cell_obj hs])) h1 k h2 (hX.2.2.2.2.1 _ h3) (fun _ h9 => h9) h7 h8 hn hfit (by simp; exact h2) hd (fun H1 locs1 hP1 hD1 hS1 => ?_)
  refine kk ls H1 locs1 hm ?_ hS1
  rw [wd_set (μ' := μ') (shp_lt hs (by omega)) ?_ ho] at hP1
  · exact hP1
  · rw [cell_obj hs]
    refine congrArg (fun z => Sum.inr (ci, z)) (List.ext_getElem? fun i => ?_)
    rw [List.getElem?_set, List.getElem?_map, List.getElem?_map]
    by_cases hi : k = i
    · subst hi
      rw [if_pos rfl, if_pos (by simpa using h2), List.getElem?_range h2, Option.map_some, hv k, if_pos rfl]
    · rw [if_neg hi]
      rcases Nat.lt_or_ge i N with h9 | h9
      · rw [List.getElem?_range h9, Option.map_some, Option.map_some, hv i, if_neg (fun q => hi q.symm)]
      · rw [List.getElem?_eq_none (by simpa using h9)]; rfl
theorem fld_ui {μ : Mem} {ci c k : Nat} {v : Int32} (hk : knd ci k = 0 ∨ knd ci k = 4) (j : Nat) : fldA (ui μ c k v) ci c j = if j = k then .int v else fldA μ ci c j := by
  by_cases h : j = k
  · subst h
    rw [if_pos rfl]
    rcases hk with hk | hk <;> simp [fldA, hk, gi, ui]
  · rw [if_neg h]
    have h1 : gi (ui μ c k v) c j = gi μ c j := by simp [gi, ui, h]
    unfold fldA
    rw [h1]; rfl
theorem fld_ul {μ : Mem} {ci c k : Nat} {v : Int64} (hk : knd ci k = 1) (j : Nat) : fldA (ul μ c k v) ci c j = if j = k then .long v else fldA μ ci c j := by
  by_cases h : j = k
  · subst h
    rw [if_pos rfl]
    simp [fldA, hk, gl, ul]
  · rw [if_neg h]
    have h1 : gl (ul μ c k v) c j = gl μ c j := by simp [gl, ul, h]
    unfold fldA
    rw [h1]; rfl
theorem v_puti (hX : Ok X cc own d) {c ci k N idx : Nat} {v : Int32} (hf : FL own idx ci k N) (hw : FW ci k .int) (hs : shp c = (ci + 3, N)) (hk : knd ci k = 0) (hd : decode cc pc = .ok (.putfield idx, 3)) (kk : V X (pc + 3) L st (ui μ c k v)) : V X pc L (.int v :: .ref c :: st) μ := v_put hX hf hw hs rfl rfl (fun _ h => cell_ui h) (fld_ui (Or.inl hk)) hd kk
theorem v_putz (hX : Ok X cc own d) {c ci k N idx : Nat} {v : Int32} (hf : FL own idx ci k N) (hw : FW ci k .boolean) (hs : shp c = (ci + 3, N)) (hk : knd ci k = 4) (hv : v = 0 ∨ v = 1) (hd : decode cc pc = .ok (.putfield idx, 3)) (kk : V X (pc + 3) L st (ui μ c k v)) : V X pc L (.int v :: .ref c :: st) μ := v_put hX hf hw hs (by rcases hv with rfl | rfl <;> rfl) (by rcases hv with rfl | rfl <;> rfl) (fun _ h => cell_ui h) (fld_ui (Or.inr hk)) hd kk
theorem v_putl (hX : Ok X cc own d) {c ci k N idx : Nat} {v : Int64} (hf : FL own idx ci k N) (hw : FW ci k .long) (hs : shp c = (ci + 3, N)) (hk : knd ci k = 1) (hd : decode cc pc = .ok (.putfield idx, 3)) (kk : V X (pc + 3) L st (ul μ c k v)) : V X pc L (.long v :: .ref c :: st) μ := v_put hX hf hw hs rfl rfl (fun _ h => cell_ul h) (fld_ul hk) hd kk
/-- the class's two moving references: only cell 0 has such fields -/
theorem knd3 : ∀ ci k, knd ci k = 3 → ci = 8 := by
  intro ci k h
  have h1 : ∀ c, c < 10 → ∀ j, j < 30 → knd c j = 3 → c = 8 := by decide +kernel
  rcases Nat.lt_or_ge ci 10 with h2 | h2
  · rcases Nat.lt_or_ge k 30 with h3 | h3
    · exact h1 ci h2 k h3 h
    · exfalso
      have h4 : ∀ c, c < 10 → (kndT.getD c []).length ≤ 30 := by decide +kernel
      have h5 := h4 ci h2
      rw [knd, List.getD_eq_getElem?_getD, List.getElem?_eq_none (by omega)] at h
      simp at h
  · exfalso
    have h4 : kndT.length ≤ ci := h2
    have h5 : kndT.getD ci [] = [] := by rw [List.getD_eq_getElem?_getD, List.getElem?_eq_none h4]; rfl
    rw [knd, h5] at h
    simp at h
theorem shp0 : ∀ c, (shp c).1 = 11 → c = 0 := by
  intro c h
  rcases Nat.lt_or_ge c NC with h1 | h1
  · have h2 : ∀ c, c < NC → (shp c).1 = 11 → c = 0 := by decide +kernel
    exact h2 c h1 h
  · have h2 : shT.length ≤ c := h1
    rw [shp, List.getD_eq_getElem?_getD, List.getElem?_eq_none h2] at h
    simp at h
theorem v_putp (hX : Ok X cc own d) {k idx : Nat} {v : Nat} (hf : FL own idx 8 k 13) (hw : FW 8 k (.object "DoorCases$House")) (hk : knd 8 k = 3) (hd : decode cc pc = .ok (.putfield idx, 3)) (kk : V X (pc + 3) L st (up μ k v)) : V X pc L (.ref v :: .ref 0 :: st) μ := by
  refine v_put (μ' := up μ k v) hX hf hw (rfl : shp 0 = (8 + 3, 13)) rfl rfl (fun e he => ?_) (fun j => ?_) hd kk
  · have hF : ∀ ci j, ci ≠ 8 → fldA (up μ k v) ci e j = fldA μ ci e j := fun ci j h8 => by
      unfold fldA
      split <;> first | rfl | (rename_i h3; exact absurd (knd3 _ _ h3) h8)
    unfold cellE
    split <;> try rfl
    rename_i ci n hsh
    have h8 : ci ≠ 8 := fun q => he (shp0 e (by rw [hsh, q]))
    simp only [hF ci _ h8]
  · by_cases h : j = k
    · subst h
      rw [if_pos rfl]
      simp [fldA, hk, gp, up]
    · rw [if_neg h]
      have h1 : gp (up μ k v) j = gp μ j := by simp [gp, up, h]
      unfold fldA
      rw [h1]; rfl
theorem v_iald (hX : Ok X cc own d) {c n : Nat} {i : Int32} (hs : shp c = (0, n)) (hin : vp_in i n) (hd : decode cc pc = .ok (.iaload, 1)) (kk : V X (pc + 1) L (.int (gi μ c i.toNatClampNeg) :: st) μ) : V X pc L (.int i :: .ref c :: st) μ := fun ls H locs hm hP hS => by
  have hn : 0 < n := by
    rcases Nat.eq_zero_or_pos n with h | h
    · exact absurd (Or.inr (by omega)) hin
    · exact h
  exact va_iald (f := gi μ c) hX.1 hX.2.1 hX.2.2.2.2.2.1.1 hP c 0 ((wd_at (shp_lt hs hn)).trans (by rw [cell_int hs])) rfl hin hd (kk ls H locs hm hP hS)
theorem v_bald (hX : Ok X cc own d) {c n : Nat} {i : Int32} (hs : shp c = (1, n)) (hin : vp_in i n) (hd : decode cc pc = .ok (.baload, 1)) (kk : V X (pc + 1) L (.int (gi μ c i.toNatClampNeg) :: st) μ) : V X pc L (.int i :: .ref c :: st) μ := fun ls H locs hm hP hS => by
  have hn : 0 < n := by
    rcases Nat.eq_zero_or_pos n with h | h
    · exact absurd (Or.inr (by omega)) hin
    · exact h
  exact va_zald (f := gi μ c) hX.1 hX.2.1 hX.2.2.2.2.2.1.1 hP c 1 ((wd_at (shp_lt hs hn)).trans (by rw [cell_bool hs])) rfl hin hd (kk ls H locs hm hP hS)
theorem v_aald (hX : Ok X cc own d) {c n : Nat} {i : Int32} (hs : shp c = (2, n)) (hin : vp_in i n) (hd : decode cc pc = .ok (.aaload, 1)) (kk : V X (pc + 1) L (.ref (c + 1 + 3 * i.toNatClampNeg) :: st) μ) : V X pc L (.int i :: .ref c :: st) μ := fun ls H locs hm hP hS => by
  have hn : 0 < n := by
    rcases Nat.eq_zero_or_pos n with h | h
    · exact absurd (Or.inr (by omega)) hin
    · exact h
  exact va_aldq (f := fun j => some (xd X (c + 1 + 3 * j))) hX.1 hX.2.1 hX.2.2.2.2.2.1.1 hP c 2 ((wd_at (shp_lt hs hn)).trans (by rw [cell_sc hs])) rfl hin hd (kk ls H locs hm hP hS)
theorem v_iast (hX : Ok X cc own d) {c n : Nat} {i x : Int32} (hs : shp c = (0, n)) (hin : vp_in i n) (hd : decode cc pc = .ok (.iastore, 1)) (kk : V X (pc + 1) L st (ui μ c i.toNatClampNeg x)) : V X pc L (.int x :: .int i :: .ref c :: st) μ := fun ls H locs hm hP hS => by
  have hn : 0 < n := by
    rcases Nat.eq_zero_or_pos n with h | h
    · exact absurd (Or.inr (by omega)) hin
    · exact h
  refine va_iast (f := gi μ c) hX.1 hX.2.1 hX.2.2.2.2.2.1.1 hP (wd_D hX.2.2.2.2.2.2.1) hS c 0 ((wd_at (shp_lt hs hn)).trans (by rw [cell_int hs])) rfl hin hd (fun H1 locs1 hP1 hD1 hS1 => ?_)
  refine kk ls H1 locs1 hm ?_ hS1
  rw [wd_set (μ' := ui μ c i.toNatClampNeg x) (shp_lt hs hn) ?_ (fun _ h => cell_ui h)] at hP1
  · exact hP1
  · rw [cell_int hs]
    refine congrArg (fun z => Sum.inl ((xK X).1, n, Sum.inl z)) (funext fun j => ?_)
    simp [upd, gi, ui]
theorem nar_b {x : Int32} (h : x = 0 ∨ x = 1) : vp_nar .boolean x = x := by rcases h with rfl | rfl <;> rfl
theorem v_bast (hX : Ok X cc own d) {c n : Nat} {i x : Int32} (hs : shp c = (1, n)) (hin : vp_in i n) (hx : x = 0 ∨ x = 1) (hd : decode cc pc = .ok (.bastore, 1)) (kk : V X (pc + 1) L st (ui μ c i.toNatClampNeg x)) : V X pc L (.int x :: .int i :: .ref c :: st) μ := fun ls H locs hm hP hS => by
  have hn : 0 < n := by
    rcases Nat.eq_zero_or_pos n with h | h
    · exact absurd (Or.inr (by omega)) hin
    · exact h
  refine va_zast (f := gi μ c) hX.1 hX.2.1 hX.2.2.2.2.2.1.1 hP (wd_D hX.2.2.2.2.2.2.1) hS c 1 ((wd_at (shp_lt hs hn)).trans (by rw [cell_bool hs])) rfl hin hd (fun H1 locs1 hP1 hD1 hS1 => ?_)
  refine kk ls H1 locs1 hm ?_ hS1
  rw [nar_b hx, wd_set (μ' := ui μ c i.toNatClampNeg x) (shp_lt hs hn) ?_ (fun _ h => cell_ui h)] at hP1
  · exact hP1
  · rw [cell_bool hs]
    refine congrArg (fun z => Sum.inl ((xK X).2.1, n, Sum.inl z)) (funext fun j => ?_)
    simp [upd, gi, ui]
theorem v_alen (hX : Ok X cc own d) {c n : Nat} (v : Int32) (hs : shp c = (0, n)) (hn : 0 < n) (hv : Int32.ofNat n = v) (hd : decode cc pc = .ok (.arraylength, 1)) (kk : V X (pc + 1) L (.int v :: st) μ) : V X pc L (.ref c :: st) μ := fun ls H locs hm hP hS => va_alen (x := (n, .inl (gi μ c))) hX.1 hX.2.1 hX.2.2.2.2.2.1.1 hP c 0 ((wd_at (shp_lt hs hn)).trans (by rw [cell_int hs])) rfl hv hd (kk ls H locs hm hP hS)
/-- what is read behind a static array: KIND_MARK (k := 0), KIND_ABOVE (k := 1): the two instructions are walked together with the value between them by its own rows -/
theorem v_kinds (hX : Ok X cc own d) {i1 : Nat} {i : Int32} {l1 : Fin 4} (hl1 : Cond.fieldLink own i1 "DoorCases" "KIND_MARK" "[I" ∈ tw) (hd : decode cc pc = .ok (.getstatic i1, 3)) (hd2 : decode cc (pc + 3) = .ok (.iload_n l1, 1)) (hl : L[(l1 : Nat)]? = some (some (.int i))) (hin : vp_in i 6) (hd3 : decode cc (pc + 3 + 1) = .ok (.iaload, 1)) (kk : V X (pc + 3 + 1 + 1) L (.int (markF i.toNatClampNeg) :: st) μ) : V X pc L st μ := fun ls H locs hm hP hS => by
  obtain ⟨-, z1, z2, z3, z4, -⟩ := hX.2.2.2.2.2.1
  exact va_gets hX.1 hX.2.1 z1 hS hX.2.2.2.1 (hX.2.2.2.2.1 _ hl1) (fun _ h => h) hd (lv_iload_n hX.1 hX.2.1 hd2 rfl (hm.2 _ _ hl).2 (va_ti hX.1 hX.2.1 z2 hS hin rfl hd3 (kk ls H locs hm hP hS)))
theorem v_above (hX : Ok X cc own d) {i1 : Nat} {i : Int32} {l1 : Fin 4} (hl1 : Cond.fieldLink own i1 "DoorCases" "KIND_ABOVE" "[I" ∈ tw) (hd : decode cc pc = .ok (.getstatic i1, 3)) (hd2 : decode cc (pc + 3) = .ok (.iload_n l1, 1)) (hl : L[(l1 : Nat)]? = some (some (.int i))) (hin : vp_in i 6) (hd3 : decode cc (pc + 3 + 1) = .ok (.iaload, 1)) (kk : V X (pc + 3 + 1 + 1) L (.int (aboveF i.toNatClampNeg) :: st) μ) : V X pc L st μ := fun ls H locs hm hP hS => by
  obtain ⟨-, z1, z2, z3, z4, -⟩ := hX.2.2.2.2.2.1
  exact va_gets hX.1 hX.2.1 z3 hS hX.2.2.2.1 (hX.2.2.2.2.1 _ hl1) (fun _ h => h) hd (lv_iload_n hX.1 hX.2.1 hd2 rfl (hm.2 _ _ hl).2 (va_ti hX.1 hX.2.1 z4 hS hin rfl hd3 (kk ls H locs hm hP hS)))
end VMEM
end
section
section VCALL
variable {X : XT} {cc : ByteArray} {own : String} {d pc : Nat} {L : List (Option Value)} {st : List Value} {μ : Mem} {ret : Option FieldType} {P : Post}
theorem v_iret (hO : OkM X cc own d (some .int) P) {v : Int32} (hd : decode cc pc = .ok (.ireturn, 1)) (h : P (some (.int v)) μ) : V X pc L [.int v] μ := fun ls H locs hm hP hS => by
  obtain ⟨hX, hr, hQ, hA⟩ := hO
  rw [hQ]
  rw [hA] at hS
  exact W.iret (v := v) hX.1 hX.2.1 hr (fun t ht hW => ⟨⟨some (.int v), μ, rfl, h, by rw [ht]; exact hP⟩, hS.F ht⟩) hS.2.2 hd hX.2.2.2.2.2.2.2.1
theorem v_zret (hO : OkM X cc own d (some .boolean) P) {v : Int32} (hd : decode cc pc = .ok (.ireturn, 1)) (hv : v = 0 ∨ v = 1) (h : P (some (.int v)) μ) : V X pc L [.int v] μ := fun ls H locs hm hP hS => by
  obtain ⟨hX, hr, hQ, hA⟩ := hO
  rw [hQ]
  rw [hA] at hS
  exact W.zret (v := v) hX.1 hX.2.1 hr (by rcases hv with rfl | rfl <;> rfl) (fun t ht hW => ⟨⟨some (.int v), μ, rfl, h, by rw [ht]; exact hP⟩, hS.F ht⟩) hS.2.2 hd hX.2.2.2.2.2.2.2.1
theorem v_lret (hO : OkM X cc own d (some .long) P) {v : Int64} (hd : decode cc pc = .ok (.lreturn, 1)) (h : P (some (.long v)) μ) : V X pc L [.long v] μ := fun ls H locs hm hP hS => by
  obtain ⟨hX, hr, hQ, hA⟩ := hO
  rw [hQ]
  rw [hA] at hS
  exact W.lret (v := v) hX.1 hX.2.1 hr (fun t ht hW => ⟨⟨some (.long v), μ, rfl, h, by rw [ht]; exact hP⟩, hS.F ht⟩) hS.2.2 hd hX.2.2.2.2.2.2.2.1
theorem v_vret (hO : OkM X cc own d none P) (hd : decode cc pc = .ok (.return_, 1)) (h : P none μ) : V X pc L [] μ := fun ls H locs hm hP hS => by
  obtain ⟨hX, hr, hQ, hA⟩ := hO
  rw [hQ]
  rw [hA] at hS
  exact W.vret hX.1 hX.2.1 hr (fun t ht hW => ⟨⟨none, μ, rfl, h, by rw [ht]; exact hP⟩, hS.F ht⟩) hS.2.2 hd hX.2.2.2.2.2.2.2.1
theorem va_callQ {p : Program} {l : Launch} {e : Env} {R : Room} {s : State} {m : MethodId} {args : Array Value} {below : List Frame} {meth : Method} {c : Code} {H : Heap} {locs : List Loc} {Q : State → Prop} {ls : Array Slot} {rest st0 : List Value} {a : Array Value} {A0 : Nat → Prop} {D : va_G} {K : K3} {ad : Nat → Nat} {P : Post}
    (hr : va_Run p l e R s m args below meth c H locs 0 0 0 0 (F0 m pc ls st0) rest (QQ D K ad P a) (inW ad)) (hS : va_S A0 s.heap H locs) (hA : ∀ q, inW ad q → A0 q)
    (kk : ∀ (r : Option Value) (μ' : Mem) (H1 : Heap) (locs1 : List Loc), P r μ' → va_P D vwCl (wd ad K μ') H1 → va_S A0 s.heap H1 locs1 → W p l e R s m args below meth c H1 locs1 0 0 Q (F0 m (pc + 3) ls ((r.map (tr ad)).toList ++ rest))) : W p l e R s m args below meth c H locs 0 0 Q (F0 m pc ls st0) := by
  intro T hT Y
  obtain ⟨v, st₀, t, T', L, h0, Y', hL, e1, e2, ⟨⟨r, u, hv, hp, hb⟩, hz, hk⟩, sg⟩ := hr T hT Y
  cases hv
  rw [h0] at hz hk
  obtain ⟨t2, a1, b1⟩ := kk r u T'.heap (locs ++ L) hp (by rw [e1]; exact hb)
    ⟨Nat.le_trans hS.1 (by rw [e1]; exact hz), fun q h1 h2 => by rw [e1, hk q (Nat.lt_of_lt_of_le h1 hS.1) (fun z => h2 (hA q z))]; exact hS.2.1 q h1 h2, fun q hq => by
      rcases List.mem_append.mp hq with h | h
      · exact hS.2.2 q h
      · exact hA _ (hL q h)⟩ T' rfl Y'
  exact ⟨t2, sg t2 a1, b1⟩
theorem pc_blind {D : va_G} {K : K3} {ad : Nat → Nat} {z : Nat × Nat} {av : List Value} {μ : Mem} : FrameBlind (va_Pc (av.map (tr ad)) (fun U => va_P D vwCl (wd ad K μ) U.heap ∧ St D K (inW ad) z U U.heap ∧ va_D (inW ad) (wd ad K m0))) := by
  rintro a U g mk ⟨q0, q1, q2, q3⟩
  exact ⟨q0, q1, q2.same rfl, q3⟩
theorem pc_call {z : Nat × Nat} {av : List Value} {H : Heap} {locs : List Loc} (hX : Ok X cc own d) (hP : va_P (xD X) vwCl (wd (xd X) (xK X) μ) H) (hS : va_S (xA X) (xs X).heap H locs) (U : State) (hU : U.heap = H) (hW : (xs X).WarmedH U.vm) : va_Pc (av.map (tr (xd X))) (fun U => va_P (xD X) vwCl (wd (xd X) (xK X) μ) U.heap ∧ St (xD X) (xK X) (inW (xd X)) (xz X) U U.heap ∧ va_D (inW (xd X)) (wd (xd X) (xK X) m0)) (av.map (tr (xd X))).toArray U :=
  ⟨rfl, by rw [hU]; exact hP, St.call hX.2.2.2.2.2.1 hS hW hU (wd_A hX.2.2.2.2.2.2.1), wd_W hX.2.2.2.2.2.2.1⟩
theorem cat_sum {ad : Nat → Nat} (rest : List Value) : ((rest.map (tr ad)).map fun v => v.category).sum = (rest.map fun v => v.category).sum := by
  rw [List.map_map]
  exact congrArg List.sum (List.map_congr_left fun v _ => tr_cat ad v)
/-- what a call's link says -/
def ML (own : String) (idx : Nat) (y : MethodName) (n : Nat) : Prop := Cond.methodLink own idx y ∈ tw ∧ Cond.initialized y.cls ∈ tw ∧ (y.cls ≠ "java/lang/invoke/MethodHandle" ∧ y.cls ≠ "java/lang/invoke/VarHandle" ∧ (parseMethodDescriptor y.desc).map (fun d => d.parameters.length) = some n)
/-- an instance method of the class number ci -/
def MV (ci : Nat) (y : MethodName) : Prop := Cond.instanceMethod y ∈ tw ∧ Cond.selects y.cls y y ∈ tw ∧ ∃ (T : u_T) (N : Nat), vwCl[ci]? = some (y.cls, T, N)
theorem v_callV (hX : Ok X cc own d) {y : MethodName} {bytes : ByteArray} {maxL d' idx n ci N c : Nat} {S : Tr} (hsp : Sp y bytes maxL ret d' S) (hc : Cond.code y bytes maxL ret ∈ tw) (hm1 : ML own idx y n) (hm2 : MV ci y) (hs : shp c = (ci + 3, N)) (hN : 0 < N) (hR : d' < d ∧ maxL ≤ 21) (As rest : List Value) (hn : As.length = n) (hst : st = As.reverse ++ .ref c :: rest) (hcat : (rest.map fun v => v.category).sum ≤ 8) (hd : decode cc pc = .ok (.invokevirtual idx, 3))
    (hS : S (.ref c :: As) μ (fun r μ' => V X (pc + 3) L (r.toList ++ rest) μ')) : V X pc L st μ := fun ls H locs hm hP hSS => by
  subst hst
  obtain ⟨ml, mi, md⟩ := hm1
  obtain ⟨vi, vs, T, N', vC⟩ := hm2
  have hM := hsp (xl X) (xD X) (xK X) (xd X) (xz X) (.ref c :: As) μ _ hS
  have hGw : GoodIn tw (wsV own idx y.cls y (wA y bytes maxL ret)) := by
    intro w hw
    rcases List.mem_append.mp hw with hw | hw
    · have : w ∈ tw := by
        rcases List.mem_cons.mp hw with rfl | hw
        · exact ml
        rcases List.mem_cons.mp hw with rfl | hw
        · exact vi
        rcases List.mem_cons.mp hw with rfl | hw
        · exact vs
        rcases List.mem_cons.mp hw with rfl | hw
        · exact mi
        · cases hw
      exact ⟨this, tw_good this⟩
    · exact wA_good hc w hw
  refine va_callQ (rest := rest.map (tr (xd X))) (va_runV (cc := cc) (nL := xn X) (Ts := tw) (own := own) (C := y.cls) (b := xd X c) (As := As.map (tr (xd X))) ⟨hX.1, hX.2.1, hX.2.2.1, hX.2.2.2.1, hX.2.2.2.2.1⟩ hM (cwV n hX.2.2.2.2.1 hGw rfl rfl rfl ⟨rfl, md.1, md.2.1, md.2.2⟩ ⟨?_, ?_⟩) ⟨pc_blind, ?_, ?_⟩ rfl (by rw [List.length_map]; exact hn) hm.1.1 ?_ (lv_room (by rw [cat_sum]; exact hcat)) hd ⟨Nat.zero_le _, Nat.zero_le _⟩) hSS (wd_A hX.2.2.2.2.2.2.1) ?_
  · show d' + 1 ≤ _
    have := hX.2.2.2.2.2.2.2.2.1
    omega
  · show 8 + (maxL + 11) + 40 * d' ≤ _
    have := hX.2.2.2.2.2.2.2.2.2
    omega
  · exact va_recv hX.2.2.2.2.2.1.1 hP vC ((wd_at (shp_lt hs hN)).trans (by rw [cell_obj hs]))
  · exact fun U hU hW => pc_call (z := xz X) (av := .ref c :: As) hX hP hSS U hU hW
  · simp [tr]
  · intro r μ' H1 locs1 hk hP1 hS1
    have h := hk ls H1 locs1 hm hP1 hS1
    cases r <;> simpa using h
theorem v_callS (hX : Ok X cc own d) {y : MethodName} {bytes : ByteArray} {maxL d' idx n : Nat} {S : Tr} (hsp : Sp y bytes maxL ret d' S) (hc : Cond.code y bytes maxL ret ∈ tw) (hm1 : ML own idx y n) (hm2 : Cond.static y ∈ tw) (hR : d' < d ∧ maxL ≤ 21) (As rest : List Value) (hn : As.length = n) (hst : st = As.reverse ++ rest) (hcat : (rest.map fun v => v.category).sum ≤ 8) (hd : decode cc pc = .ok (.invokestatic idx, 3))
    (hS : S As μ (fun r μ' => V X (pc + 3) L (r.toList ++ rest) μ')) : V X pc L st μ := fun ls H locs hm hP hSS => by
  subst hst
  obtain ⟨ml, mi, md⟩ := hm1
  have hM := hsp (xl X) (xD X) (xK X) (xd X) (xz X) As μ _ hS
  have hGw : GoodIn tw (va_wsS own idx y (wA y bytes maxL ret)) := by
    intro w hw
    rcases List.mem_append.mp hw with hw | hw
    · have : w ∈ tw := by
        rcases List.mem_cons.mp hw with rfl | hw
        · exact ml
        rcases List.mem_cons.mp hw with rfl | hw
        · exact hm2
        rcases List.mem_cons.mp hw with rfl | hw
        · exact mi
        · cases hw
      exact ⟨this, tw_good this⟩
    · exact wA_good hc w hw
  refine va_callQ (rest := rest.map (tr (xd X))) (va_runS (cc := cc) (nL := xn X) (Ts := tw) (own := own) (As := As.map (tr (xd X))) ⟨hX.1, hX.2.1, hX.2.2.1, hX.2.2.2.1, hX.2.2.2.2.1⟩ hM (va_cwS n hX.2.2.2.2.1 hGw rfl rfl rfl ⟨md.1, md.2.1, md.2.2⟩ ⟨?_, ?_⟩) ⟨pc_blind, ?_⟩ rfl (by rw [List.length_map]; exact hn) hm.1.1 ?_ (lv_room (by rw [cat_sum]; exact hcat)) hd ⟨Nat.zero_le _, Nat.zero_le _⟩) hSS (wd_A hX.2.2.2.2.2.2.1) ?_
  · show d' + 1 ≤ _
    have := hX.2.2.2.2.2.2.2.2.1
    omega
  · show 8 + (maxL + 11) + 40 * d' ≤ _
    have := hX.2.2.2.2.2.2.2.2.2
    omega
  · exact fun U hU hW => pc_call (z := xz X) (av := As) hX hP hSS U hU hW
  · simp
  · intro r μ' H1 locs1 hk hP1 hS1
    have h := hk ls H1 locs1 hm hP1 hS1
    cases r <;> simpa using h
/-- lossOf, a private static of the nest's host, called from Scene (66) and Exits (75) -/
theorem v_callN (hX : Ok X cc own d) {y : MethodName} {bytes : ByteArray} {maxL d' idx n : Nat} {S : Tr} (hsp : Sp y bytes maxL ret d' S) (hc : Cond.code y bytes maxL ret ∈ tw) (hnw : va_Nw (.methodLinkNest own idx y "DoorCases") (xs X)) (hi : Cond.initialized y.cls ∈ tw) (hm2 : Cond.static y ∈ tw) (md : y.cls ≠ "java/lang/invoke/MethodHandle" ∧ y.cls ≠ "java/lang/invoke/VarHandle" ∧ (parseMethodDescriptor y.desc).map (fun d => d.parameters.length) = some n) (hR : d' < d ∧ maxL ≤ 21) (As rest : List Value) (hn : As.length = n) (hst : st = As.reverse ++ rest) (hcat : (rest.map fun v => v.category).sum ≤ 8) (hd : decode cc pc = .ok (.invokestatic idx, 3))
    (hS : S As μ (fun r μ' => V X (pc + 3) L (r.toList ++ rest) μ')) : V X pc L st μ := fun ls H locs hm hP hSS => by
  subst hst
  have hM := hsp (xl X) (xD X) (xK X) (xd X) (xz X) As μ _ hS
  refine va_callQ (rest := rest.map (tr (xd X))) (va_runSN (cc := cc) (nL := xn X) (Ts := tw) (own := own) (As := As.map (tr (xd X))) ⟨hX.1, hX.2.1, hX.2.2.1, hX.2.2.2.1, hX.2.2.2.2.1⟩ hM ⟨va_cnB n hX.2.2.2.2.1 (wA_good hc) rfl rfl rfl hnw (hX.2.2.2.2.1 _ hi) md ⟨?_, ?_⟩, hX.2.2.2.2.1 _ hm2, trivial⟩ ⟨pc_blind, ?_⟩ rfl (by rw [List.length_map]; exact hn) hm.1.1 ?_ (lv_room (by rw [cat_sum]; exact hcat)) hd ⟨Nat.zero_le _, Nat.zero_le _⟩) hSS (wd_A hX.2.2.2.2.2.2.1) ?_
  · show d' + 1 ≤ _
    have := hX.2.2.2.2.2.2.2.2.1
    omega
  · show 8 + (maxL + 11) + 40 * d' ≤ _
    have := hX.2.2.2.2.2.2.2.2.2
    omega
  · exact fun U hU hW => pc_call (z := xz X) (av := As) hX hP hSS U hU hW
  · simp
  · intro r μ' H1 locs1 hk hP1 hS1
    have h := hk ls H1 locs1 hm hP1 hS1
    cases r <;> simpa using h
def tMax : List Cond := [.static Lib.Math.max.name, .initialized "java/lang/Math", .code Lib.Math.max.name Lib.Math.max.code 2 (some .int)]
theorem v_mmax (hX : Ok X cc own d) {idx : Nat} {x y : Int32} (hl : Cond.methodLink own idx Lib.Math.max.name ∈ tw) (hw : ∀ w ∈ tMax, w ∈ tw) (hd0 : 0 < d) (hcat : (st.map fun v => v.category).sum ≤ 8) (hd : decode cc pc = .ok (.invokestatic idx, 3)) (k : V X (pc + 3) L (.int (if x < y then y else x) :: st) μ) : V X pc L (.int y :: .int x :: st) μ := fun ls H locs hm hP hS => by
  have h9 := hX.2.2.2.2.2.2.2.2
  exact va_mmax hX.1 hX.2.1 (hX.2.2.1.trans hm.1.1.symm) hX.2.2.2.1 (hX.2.2.2.2.1 _ hl) (hX.2.2.2.2.1 _ (hw _ (by simp [tMax]))) (hX.2.2.2.2.1 _ (hw _ (by simp [tMax]))) (hX.2.2.2.2.1 _ (hw _ (by simp [tMax]))) (by omega) (by rw [cat_sum]; omega) (Nat.zero_le _) (Nat.zero_le _) hd (k ls H locs hm hP hS)
def tMin : List Cond := [.static Lib.Math.min.name, .initialized "java/lang/Math", .code Lib.Math.min.name Lib.Math.min.code 2 (some .int)]
theorem v_mmin (hX : Ok X cc own d) {idx : Nat} {x y : Int32} (hl : Cond.methodLink own idx Lib.Math.min.name ∈ tw) (hw : ∀ w ∈ tMin, w ∈ tw) (hd0 : 0 < d) (hcat : (st.map fun v => v.category).sum ≤ 8) (hd : decode cc pc = .ok (.invokestatic idx, 3)) (k : V X (pc + 3) L (.int (if y < x then y else x) :: st) μ) : V X pc L (.int y :: .int x :: st) μ := fun ls H locs hm hP hS => by
  have h9 := hX.2.2.2.2.2.2.2.2
  exact va_mmin hX.1 hX.2.1 (hX.2.2.1.trans hm.1.1.symm) hX.2.2.2.1 (hX.2.2.2.2.1 _ hl) (hX.2.2.2.2.1 _ (hw _ (by simp [tMin]))) (hX.2.2.2.2.1 _ (hw _ (by simp [tMin]))) (hX.2.2.2.2.1 _ (hw _ (by simp [tMin]))) (by omega) (by rw [cat_sum]; omega) (Nat.zero_le _) (Nat.zero_le _) hd (k ls H locs hm hP hS)
def tAbs : List Cond := [.static Lib.Math.abs.name, .initialized "java/lang/Math", .code Lib.Math.abs.name Lib.Math.abs.code 1 (some .int)]
theorem v_mabs (hX : Ok X cc own d) {idx : Nat} {x : Int32} (hl : Cond.methodLink own idx Lib.Math.abs.name ∈ tw) (hw : ∀ w ∈ tAbs, w ∈ tw) (hd0 : 0 < d) (hcat : (st.map fun v => v.category).sum ≤ 8) (hd : decode cc pc = .ok (.invokestatic idx, 3)) (k : V X (pc + 3) L (.int (if 0 ≤ x then x else 0 - x) :: st) μ) : V X pc L (.int x :: st) μ := fun ls H locs hm hP hS => by
  have h9 := hX.2.2.2.2.2.2.2.2
  exact va_mabs hX.1 hX.2.1 (hX.2.2.1.trans hm.1.1.symm) hX.2.2.2.1 (hX.2.2.2.2.1 _ hl) (hX.2.2.2.2.1 _ (hw _ (by simp [tAbs]))) (hX.2.2.2.2.1 _ (hw _ (by simp [tAbs]))) (hX.2.2.2.2.1 _ (hw _ (by simp [tAbs]))) (by omega) (by rw [cat_sum]; omega) (Nat.zero_le _) (Nat.zero_le _) hd (k ls H locs hm hP hS)
def tCpy : List Cond := [.native arraycopyName, .static arraycopyName, .initialized "java/lang/System"]
theorem v_copy (hX : Ok X cc own d) {idx c0 c1 n0 n1 : Nat} {sp dp n : Int32} (hl : Cond.methodLink own idx arraycopyName ∈ tw) (hw : ∀ w ∈ tCpy, w ∈ tw) (hs0 : shp c0 = (0, n0)) (hs1 : shp c1 = (0, n1)) (hz0 : 0 < n0) (hz1 : 0 < n1) (hd0 : 2 ≤ d) (hcat : (st.map fun v => v.category).sum ≤ 8) (hd : decode cc pc = .ok (.invokestatic idx, 3))
    (h1 : ¬ sp < 0) (h2 : ¬ dp < 0) (h3 : ¬ n < 0) (h4 : sp.toNatClampNeg + n.toNatClampNeg ≤ n0) (h5 : dp.toNatClampNeg + n.toNatClampNeg ≤ n1)
    (k : V X (pc + 3) L st (ua μ c1 (va_cpy (gi μ c0) (gi μ c1) sp.toNatClampNeg dp.toNatClampNeg n.toNatClampNeg))) : V X pc L (.int n :: .int dp :: .ref c1 :: .int sp :: .ref c0 :: st) μ := fun ls H locs hm hP hS => by
  have h9 := hX.2.2.2.2.2.2.2.2
  have hnw : nativeFrameWords "java/lang/System" "arraycopy" 5 + 11 ≤ 60 := by decide
  refine va_copyi (f := gi μ c0) (g := gi μ c1) (ty := .int) hX.1 hX.2.1 (hX.2.2.1.trans hm.1.1.symm) hX.2.2.2.1 (hX.2.2.2.2.1 _ hl) (hX.2.2.2.2.1 _ (hw _ (by simp [tCpy]))) (hX.2.2.2.2.1 _ (hw _ (by simp [tCpy]))) (hX.2.2.2.2.1 _ (hw _ (by simp [tCpy]))) hX.2.2.2.2.2.1.1 hP (wd_D hX.2.2.2.2.2.2.1) hS c0 c1 0 0 ((wd_at (shp_lt hs0 hz0)).trans (by rw [cell_int hs0])) ((wd_at (shp_lt hs1 hz1)).trans (by rw [cell_int hs1])) rfl rfl rfl h1 h2 h3 h4 h5 (fun _ _ => rfl) (by omega) (by rw [cat_sum]; omega) hd (fun H1 locs1 hP1 hD1 hS1 => ?_)
  refine k ls H1 locs1 hm ?_ hS1
  rw [wd_set (μ' := ua μ c1 (va_cpy (gi μ c0) (gi μ c1) sp.toNatClampNeg dp.toNatClampNeg n.toNatClampNeg)) (shp_lt hs1 hz1) ?_ (fun _ h => cell_ua h)] at hP1
  · exact hP1
  · rw [cell_int hs1]
    refine congrArg (fun z => Sum.inl ((xK X).1, n1, Sum.inl z)) (funext fun j => ?_)
    simp [gi, ua]
end VCALL
end
section
theorem mtb {w : Cond} (i : Nat) (h : tables_1[i]? = some w) (g : goodWord w = true) : w ∈ tw := mem_tw (List.mem_append_right _ (List.mem_of_getElem? h)) g
theorem mpr {w : Cond} (i : Nat) (h : (k2_sels lw_privs)[i]? = some w) (g : goodWord w = true) : w ∈ tw := mem_tw (List.mem_append_left _ (List.mem_of_getElem? h)) g
theorem lay0 : ∀ w ∈ u_ws RX0 TX0 7, w ∈ tw := by
  have h : ∀ k, k < 7 → u_lay RX0 TX0 k ∈ tw := by
    intro k hk
    match k, hk with
    | 0, _ => exact mtb 243 (by decide +kernel) (by decide +kernel)
    | 1, _ => exact mtb 245 (by decide +kernel) (by decide +kernel)
    | 2, _ => exact mtb 247 (by decide +kernel) (by decide +kernel)
    | 3, _ => exact mtb 249 (by decide +kernel) (by decide +kernel)
    | 4, _ => exact mtb 251 (by decide +kernel) (by decide +kernel)
    | 5, _ => exact mtb 253 (by decide +kernel) (by decide +kernel)
    | 6, _ => exact mtb 255 (by decide +kernel) (by decide +kernel)
    | n + 7, hk => exact absurd hk (by omega)
  intro w hw
  obtain ⟨k, hk, rfl⟩ := List.mem_map.mp hw
  exact h k (List.mem_range.mp hk)
theorem lay1 : ∀ w ∈ u_ws RX1 TX1 7, w ∈ tw := by
  have h : ∀ k, k < 7 → u_lay RX1 TX1 k ∈ tw := by
    intro k hk
    match k, hk with
    | 0, _ => exact mtb 211 (by decide +kernel) (by decide +kernel)
    | 1, _ => exact mtb 213 (by decide +kernel) (by decide +kernel)
    | 2, _ => exact mtb 215 (by decide +kernel) (by decide +kernel)
    | 3, _ => exact mtb 217 (by decide +kernel) (by decide +kernel)
    | 4, _ => exact mtb 219 (by decide +kernel) (by decide +kernel)
    | 5, _ => exact mtb 221 (by decide +kernel) (by decide +kernel)
    | 6, _ => exact mtb 223 (by decide +kernel) (by decide +kernel)
    | n + 7, hk => exact absurd hk (by omega)
  intro w hw
  obtain ⟨k, hk, rfl⟩ := List.mem_map.mp hw
  exact h k (List.mem_range.mp hk)
theorem lay2 : ∀ w ∈ u_ws RX2 TX2 12, w ∈ tw := by
  have h : ∀ k, k < 12 → u_lay RX2 TX2 k ∈ tw := by
    intro k hk
    match k, hk with
    | 0, _ => exact mtb 113 (by decide +kernel) (by decide +kernel)
    | 1, _ => exact mtb 115 (by decide +kernel) (by decide +kernel)
    | 2, _ => exact mtb 117 (by decide +kernel) (by decide +kernel)
    | 3, _ => exact mtb 119 (by decide +kernel) (by decide +kernel)
    | 4, _ => exact mtb 121 (by decide +kernel) (by decide +kernel)
    | 5, _ => exact mtb 123 (by decide +kernel) (by decide +kernel)
    | 6, _ => exact mtb 125 (by decide +kernel) (by decide +kernel)
    | 7, _ => exact mtb 127 (by decide +kernel) (by decide +kernel)
    | 8, _ => exact mtb 129 (by decide +kernel) (by decide +kernel)
    | 9, _ => exact mtb 131 (by decide +kernel) (by decide +kernel)
    | 10, _ => exact mtb 133 (by decide +kernel) (by decide +kernel)
    | 11, _ => exact mtb 135 (by decide +kernel) (by decide +kernel)
    | n + 12, hk => exact absurd hk (by omega)
  intro w hw
  obtain ⟨k, hk, rfl⟩ := List.mem_map.mp hw
  exact h k (List.mem_range.mp hk)
theorem lay3 : ∀ w ∈ u_ws RX3 TX3 2, w ∈ tw := by
  have h : ∀ k, k < 2 → u_lay RX3 TX3 k ∈ tw := by
    intro k hk
    match k, hk with
    | 0, _ => exact mtb 266 (by decide +kernel) (by decide +kernel)
    | 1, _ => exact mtb 268 (by decide +kernel) (by decide +kernel)
    | n + 2, hk => exact absurd hk (by omega)
  intro w hw
  obtain ⟨k, hk, rfl⟩ := List.mem_map.mp hw
  exact h k (List.mem_range.mp hk)
theorem lay4 : ∀ w ∈ u_ws RX4 TX4 3, w ∈ tw := by
  have h : ∀ k, k < 3 → u_lay RX4 TX4 k ∈ tw := by
    intro k hk
    match k, hk with
    | 0, _ => exact mtb 281 (by decide +kernel) (by decide +kernel)
    | 1, _ => exact mtb 283 (by decide +kernel) (by decide +kernel)
    | 2, _ => exact mtb 285 (by decide +kernel) (by decide +kernel)
    | n + 3, hk => exact absurd hk (by omega)
  intro w hw
  obtain ⟨k, hk, rfl⟩ := List.mem_map.mp hw
  exact h k (List.mem_range.mp hk)
theorem lay5 : ∀ w ∈ u_ws RX5 TX5 3, w ∈ tw := by
  have h : ∀ k, k < 3 → u_lay RX5 TX5 k ∈ tw := by
    intro k hk
    match k, hk with
    | 0, _ => exact mtb 190 (by decide +kernel) (by decide +kernel)
    | 1, _ => exact mtb 192 (by decide +kernel) (by decide +kernel)
    | 2, _ => exact mtb 194 (by decide +kernel) (by decide +kernel)
    | n + 3, hk => exact absurd hk (by omega)
  intro w hw
  obtain ⟨k, hk, rfl⟩ := List.mem_map.mp hw
  exact h k (List.mem_range.mp hk)
theorem lay6 : ∀ w ∈ u_ws RX6 TX6 7, w ∈ tw := by
  have h : ∀ k, k < 7 → u_lay RX6 TX6 k ∈ tw := by
    intro k hk
    match k, hk with
    | 0, _ => exact mtb 38 (by decide +kernel) (by decide +kernel)
    | 1, _ => exact mtb 40 (by decide +kernel) (by decide +kernel)
    | 2, _ => exact mtb 42 (by decide +kernel) (by decide +kernel)
    | 3, _ => exact mtb 44 (by decide +kernel) (by decide +kernel)
    | 4, _ => exact mtb 46 (by decide +kernel) (by decide +kernel)
    | 5, _ => exact mtb 48 (by decide +kernel) (by decide +kernel)
    | 6, _ => exact mtb 50 (by decide +kernel) (by decide +kernel)
    | n + 7, hk => exact absurd hk (by omega)
  intro w hw
  obtain ⟨k, hk, rfl⟩ := List.mem_map.mp hw
  exact h k (List.mem_range.mp hk)
theorem lay7 : ∀ w ∈ u_ws RX7 TX7 7, w ∈ tw := by
  have h : ∀ k, k < 7 → u_lay RX7 TX7 k ∈ tw := by
    intro k hk
    match k, hk with
    | 0, _ => exact mtb 162 (by decide +kernel) (by decide +kernel)
    | 1, _ => exact mtb 164 (by decide +kernel) (by decide +kernel)
    | 2, _ => exact mtb 166 (by decide +kernel) (by decide +kernel)
    | 3, _ => exact mtb 168 (by decide +kernel) (by decide +kernel)
    | 4, _ => exact mtb 170 (by decide +kernel) (by decide +kernel)
    | 5, _ => exact mtb 172 (by decide +kernel) (by decide +kernel)
    | 6, _ => exact mtb 174 (by decide +kernel) (by decide +kernel)
    | n + 7, hk => exact absurd hk (by omega)
  intro w hw
  obtain ⟨k, hk, rfl⟩ := List.mem_map.mp hw
  exact h k (List.mem_range.mp hk)
theorem lay8 : ∀ w ∈ u_ws RX8 TX8 13, w ∈ tw := by
  have h : ∀ k, k < 13 → u_lay RX8 TX8 k ∈ tw := by
    intro k hk
    match k, hk with
    | 0, _ => exact mtb 301 (by decide +kernel) (by decide +kernel)
    | 1, _ => exact mtb 303 (by decide +kernel) (by decide +kernel)
    | 2, _ => exact mtb 305 (by decide +kernel) (by decide +kernel)
    | 3, _ => exact mtb 307 (by decide +kernel) (by decide +kernel)
    | 4, _ => exact mtb 309 (by decide +kernel) (by decide +kernel)
    | 5, _ => exact mtb 311 (by decide +kernel) (by decide +kernel)
    | 6, _ => exact mtb 313 (by decide +kernel) (by decide +kernel)
    | 7, _ => exact mtb 315 (by decide +kernel) (by decide +kernel)
    | 8, _ => exact mtb 317 (by decide +kernel) (by decide +kernel)
    | 9, _ => exact mtb 319 (by decide +kernel) (by decide +kernel)
    | 10, _ => exact mtb 321 (by decide +kernel) (by decide +kernel)
    | 11, _ => exact mtb 323 (by decide +kernel) (by decide +kernel)
    | 12, _ => exact mtb 325 (by decide +kernel) (by decide +kernel)
    | n + 13, hk => exact absurd hk (by omega)
  intro w hw
  obtain ⟨k, hk, rfl⟩ := List.mem_map.mp hw
  exact h k (List.mem_range.mp hk)
theorem lay9 : ∀ w ∈ u_ws RX9 TX9 30, w ∈ tw := by
  have h : ∀ k, k < 30 → u_lay RX9 TX9 k ∈ tw := by
    intro k hk
    match k, hk with
    | 0, _ => exact mtb 729 (by decide +kernel) (by decide +kernel)
    | 1, _ => exact mtb 731 (by decide +kernel) (by decide +kernel)
    | 2, _ => exact mtb 733 (by decide +kernel) (by decide +kernel)
    | 3, _ => exact mtb 735 (by decide +kernel) (by decide +kernel)
    | 4, _ => exact mtb 737 (by decide +kernel) (by decide +kernel)
    | 5, _ => exact mtb 739 (by decide +kernel) (by decide +kernel)
    | 6, _ => exact mtb 741 (by decide +kernel) (by decide +kernel)
    | 7, _ => exact mtb 743 (by decide +kernel) (by decide +kernel)
    | 8, _ => exact mtb 745 (by decide +kernel) (by decide +kernel)
    | 9, _ => exact mtb 747 (by decide +kernel) (by decide +kernel)
    | 10, _ => exact mtb 749 (by decide +kernel) (by decide +kernel)
    | 11, _ => exact mtb 751 (by decide +kernel) (by decide +kernel)
    | 12, _ => exact mtb 753 (by decide +kernel) (by decide +kernel)
    | 13, _ => exact mtb 755 (by decide +kernel) (by decide +kernel)
    | 14, _ => exact mtb 757 (by decide +kernel) (by decide +kernel)
    | 15, _ => exact mtb 759 (by decide +kernel) (by decide +kernel)
    | 16, _ => exact mtb 761 (by decide +kernel) (by decide +kernel)
    | 17, _ => exact mtb 763 (by decide +kernel) (by decide +kernel)
    | 18, _ => exact mtb 765 (by decide +kernel) (by decide +kernel)
    | 19, _ => exact mtb 767 (by decide +kernel) (by decide +kernel)
    | 20, _ => exact mtb 769 (by decide +kernel) (by decide +kernel)
    | 21, _ => exact mtb 771 (by decide +kernel) (by decide +kernel)
    | 22, _ => exact mtb 773 (by decide +kernel) (by decide +kernel)
    | 23, _ => exact mtb 775 (by decide +kernel) (by decide +kernel)
    | 24, _ => exact mtb 777 (by decide +kernel) (by decide +kernel)
    | 25, _ => exact mtb 779 (by decide +kernel) (by decide +kernel)
    | 26, _ => exact mtb 781 (by decide +kernel) (by decide +kernel)
    | 27, _ => exact mtb 783 (by decide +kernel) (by decide +kernel)
    | 28, _ => exact mtb 785 (by decide +kernel) (by decide +kernel)
    | 29, _ => exact mtb 787 (by decide +kernel) (by decide +kernel)
    | n + 30, hk => exact absurd hk (by omega)
  intro w hw
  obtain ⟨k, hk, rfl⟩ := List.mem_map.mp hw
  exact h k (List.mem_range.mp hk)
theorem fk_X8_10 : FL RX8 10 8 0 13 := ⟨RX8, TX8, tyX8, rfl, by decide, mtb 288 (by decide +kernel) (by decide +kernel), lay8, tyX8_ok, nmX8⟩
theorem fk_X8_19 : FL RX8 19 8 1 13 := ⟨RX8, TX8, tyX8, rfl, by decide, mtb 289 (by decide +kernel) (by decide +kernel), lay8, tyX8_ok, nmX8⟩
theorem fk_X8_23 : FL RX8 23 8 2 13 := ⟨RX8, TX8, tyX8, rfl, by decide, mtb 290 (by decide +kernel) (by decide +kernel), lay8, tyX8_ok, nmX8⟩
theorem fk_X8_29 : FL RX8 29 8 3 13 := ⟨RX8, TX8, tyX8, rfl, by decide, mtb 291 (by decide +kernel) (by decide +kernel), lay8, tyX8_ok, nmX8⟩
theorem fk_X8_36 : FL RX8 36 8 4 13 := ⟨RX8, TX8, tyX8, rfl, by decide, mtb 292 (by decide +kernel) (by decide +kernel), lay8, tyX8_ok, nmX8⟩
theorem fk_X8_40 : FL RX8 40 8 5 13 := ⟨RX8, TX8, tyX8, rfl, by decide, mtb 293 (by decide +kernel) (by decide +kernel), lay8, tyX8_ok, nmX8⟩
theorem fk_X8_44 : FL RX8 44 8 6 13 := ⟨RX8, TX8, tyX8, rfl, by decide, mtb 294 (by decide +kernel) (by decide +kernel), lay8, tyX8_ok, nmX8⟩
theorem fk_X8_51 : FL RX8 51 8 7 13 := ⟨RX8, TX8, tyX8, rfl, by decide, mtb 295 (by decide +kernel) (by decide +kernel), lay8, tyX8_ok, nmX8⟩
theorem fk_X8_58 : FL RX8 58 8 8 13 := ⟨RX8, TX8, tyX8, rfl, by decide, mtb 296 (by decide +kernel) (by decide +kernel), lay8, tyX8_ok, nmX8⟩
theorem fk_X8_65 : FL RX8 65 8 9 13 := ⟨RX8, TX8, tyX8, rfl, by decide, mtb 297 (by decide +kernel) (by decide +kernel), lay8, tyX8_ok, nmX8⟩
theorem fk_X8_72 : FL RX8 72 8 10 13 := ⟨RX8, TX8, tyX8, rfl, by decide, mtb 298 (by decide +kernel) (by decide +kernel), lay8, tyX8_ok, nmX8⟩
theorem fk_X8_76 : FL RX8 76 8 11 13 := ⟨RX8, TX8, tyX8, rfl, by decide, mtb 299 (by decide +kernel) (by decide +kernel), lay8, tyX8_ok, nmX8⟩
theorem fk_X8_80 : FL RX8 80 8 12 13 := ⟨RX8, TX8, tyX8, rfl, by decide, mtb 300 (by decide +kernel) (by decide +kernel), lay8, tyX8_ok, nmX8⟩
theorem fk_X8_84 : FL RX8 84 6 1 7 := ⟨RX6, TX6, tyX6, rfl, by decide, mtb 31 (by decide +kernel) (by decide +kernel), lay6, tyX6_ok, nmX6⟩
theorem fk_X8_95 : FL RX8 95 6 2 7 := ⟨RX6, TX6, tyX6, rfl, by decide, mtb 33 (by decide +kernel) (by decide +kernel), lay6, tyX6_ok, nmX6⟩
theorem fk_X8_105 : FL RX8 105 4 2 3 := ⟨RX4, TX4, tyX4, rfl, by decide, mtb 280 (by decide +kernel) (by decide +kernel), lay4, tyX4_ok, nmX4⟩
theorem fk_X8_113 : FL RX8 113 7 5 7 := ⟨RX7, TX7, tyX7, rfl, by decide, mtb 158 (by decide +kernel) (by decide +kernel), lay7, tyX7_ok, nmX7⟩
theorem fk_X8_116 : FL RX8 116 2 2 12 := ⟨RX2, TX2, tyX2, rfl, by decide, mtb 75 (by decide +kernel) (by decide +kernel), lay2, tyX2_ok, nmX2⟩
theorem fk_X8_119 : FL RX8 119 2 3 12 := ⟨RX2, TX2, tyX2, rfl, by decide, mtb 79 (by decide +kernel) (by decide +kernel), lay2, tyX2_ok, nmX2⟩
theorem fk_X8_125 : FL RX8 125 7 6 7 := ⟨RX7, TX7, tyX7, rfl, by decide, mtb 161 (by decide +kernel) (by decide +kernel), lay7, tyX7_ok, nmX7⟩
theorem fk_X8_131 : FL RX8 131 2 5 12 := ⟨RX2, TX2, tyX2, rfl, by decide, mtb 88 (by decide +kernel) (by decide +kernel), lay2, tyX2_ok, nmX2⟩
theorem fk_X8_134 : FL RX8 134 2 6 12 := ⟨RX2, TX2, tyX2, rfl, by decide, mtb 93 (by decide +kernel) (by decide +kernel), lay2, tyX2_ok, nmX2⟩
theorem fk_X8_137 : FL RX8 137 2 7 12 := ⟨RX2, TX2, tyX2, rfl, by decide, mtb 97 (by decide +kernel) (by decide +kernel), lay2, tyX2_ok, nmX2⟩
theorem fk_X8_140 : FL RX8 140 2 8 12 := ⟨RX2, TX2, tyX2, rfl, by decide, mtb 100 (by decide +kernel) (by decide +kernel), lay2, tyX2_ok, nmX2⟩
theorem fk_X8_143 : FL RX8 143 7 0 7 := ⟨RX7, TX7, tyX7, rfl, by decide, mtb 145 (by decide +kernel) (by decide +kernel), lay7, tyX7_ok, nmX7⟩
theorem fk_X8_146 : FL RX8 146 7 1 7 := ⟨RX7, TX7, tyX7, rfl, by decide, mtb 148 (by decide +kernel) (by decide +kernel), lay7, tyX7_ok, nmX7⟩
theorem fk_X8_149 : FL RX8 149 7 2 7 := ⟨RX7, TX7, tyX7, rfl, by decide, mtb 151 (by decide +kernel) (by decide +kernel), lay7, tyX7_ok, nmX7⟩
theorem fk_X8_152 : FL RX8 152 7 3 7 := ⟨RX7, TX7, tyX7, rfl, by decide, mtb 153 (by decide +kernel) (by decide +kernel), lay7, tyX7_ok, nmX7⟩
theorem fk_X8_158 : FL RX8 158 7 4 7 := ⟨RX7, TX7, tyX7, rfl, by decide, mtb 155 (by decide +kernel) (by decide +kernel), lay7, tyX7_ok, nmX7⟩
theorem fk_X8_165 : FL RX8 165 5 2 3 := ⟨RX5, TX5, tyX5, rfl, by decide, mtb 189 (by decide +kernel) (by decide +kernel), lay5, tyX5_ok, nmX5⟩
theorem fk_X8_178 : FL RX8 178 2 9 12 := ⟨RX2, TX2, tyX2, rfl, by decide, mtb 105 (by decide +kernel) (by decide +kernel), lay2, tyX2_ok, nmX2⟩
theorem fk_X8_207 : FL RX8 207 2 0 12 := ⟨RX2, TX2, tyX2, rfl, by decide, mtb 69 (by decide +kernel) (by decide +kernel), lay2, tyX2_ok, nmX2⟩
theorem fk_X8_210 : FL RX8 210 1 1 7 := ⟨RX1, TX1, tyX1, rfl, by decide, mtb 205 (by decide +kernel) (by decide +kernel), lay1, tyX1_ok, nmX1⟩
theorem fk_X8_217 : FL RX8 217 0 2 7 := ⟨RX0, TX0, tyX0, rfl, by decide, mtb 237 (by decide +kernel) (by decide +kernel), lay0, tyX0_ok, nmX0⟩
theorem fk_X8_220 : FL RX8 220 0 3 7 := ⟨RX0, TX0, tyX0, rfl, by decide, mtb 239 (by decide +kernel) (by decide +kernel), lay0, tyX0_ok, nmX0⟩
theorem fk_X8_223 : FL RX8 223 0 1 7 := ⟨RX0, TX0, tyX0, rfl, by decide, mtb 235 (by decide +kernel) (by decide +kernel), lay0, tyX0_ok, nmX0⟩
theorem fk_X8_226 : FL RX8 226 0 0 7 := ⟨RX0, TX0, tyX0, rfl, by decide, mtb 233 (by decide +kernel) (by decide +kernel), lay0, tyX0_ok, nmX0⟩
theorem fk_X8_265 : FL RX8 265 2 4 12 := ⟨RX2, TX2, tyX2, rfl, by decide, mtb 84 (by decide +kernel) (by decide +kernel), lay2, tyX2_ok, nmX2⟩
theorem fk_X8_268 : FL RX8 268 2 10 12 := ⟨RX2, TX2, tyX2, rfl, by decide, mtb 108 (by decide +kernel) (by decide +kernel), lay2, tyX2_ok, nmX2⟩
theorem fk_X8_271 : FL RX8 271 2 11 12 := ⟨RX2, TX2, tyX2, rfl, by decide, mtb 112 (by decide +kernel) (by decide +kernel), lay2, tyX2_ok, nmX2⟩
theorem fk_X0_9 : FL RX0 9 0 0 7 := ⟨RX0, TX0, tyX0, rfl, by decide, mtb 232 (by decide +kernel) (by decide +kernel), lay0, tyX0_ok, nmX0⟩
theorem fk_X0_15 : FL RX0 15 0 4 7 := ⟨RX0, TX0, tyX0, rfl, by decide, mtb 240 (by decide +kernel) (by decide +kernel), lay0, tyX0_ok, nmX0⟩
theorem fk_X0_18 : FL RX0 18 0 5 7 := ⟨RX0, TX0, tyX0, rfl, by decide, mtb 241 (by decide +kernel) (by decide +kernel), lay0, tyX0_ok, nmX0⟩
theorem fk_X0_27 : FL RX0 27 2 11 12 := ⟨RX2, TX2, tyX2, rfl, by decide, mtb 109 (by decide +kernel) (by decide +kernel), lay2, tyX2_ok, nmX2⟩
theorem fk_X0_33 : FL RX0 33 7 2 7 := ⟨RX7, TX7, tyX7, rfl, by decide, mtb 150 (by decide +kernel) (by decide +kernel), lay7, tyX7_ok, nmX7⟩
theorem fk_X0_38 : FL RX0 38 0 6 7 := ⟨RX0, TX0, tyX0, rfl, by decide, mtb 242 (by decide +kernel) (by decide +kernel), lay0, tyX0_ok, nmX0⟩
theorem fk_X0_41 : FL RX0 41 0 1 7 := ⟨RX0, TX0, tyX0, rfl, by decide, mtb 234 (by decide +kernel) (by decide +kernel), lay0, tyX0_ok, nmX0⟩
theorem fk_X0_44 : FL RX0 44 0 2 7 := ⟨RX0, TX0, tyX0, rfl, by decide, mtb 236 (by decide +kernel) (by decide +kernel), lay0, tyX0_ok, nmX0⟩
theorem fk_X0_47 : FL RX0 47 0 3 7 := ⟨RX0, TX0, tyX0, rfl, by decide, mtb 238 (by decide +kernel) (by decide +kernel), lay0, tyX0_ok, nmX0⟩
theorem fk_X0_50 : FL RX0 50 7 1 7 := ⟨RX7, TX7, tyX7, rfl, by decide, mtb 147 (by decide +kernel) (by decide +kernel), lay7, tyX7_ok, nmX7⟩
theorem fk_X0_57 : FL RX0 57 2 0 12 := ⟨RX2, TX2, tyX2, rfl, by decide, mtb 65 (by decide +kernel) (by decide +kernel), lay2, tyX2_ok, nmX2⟩
theorem fk_X0_64 : FL RX0 64 2 3 12 := ⟨RX2, TX2, tyX2, rfl, by decide, mtb 77 (by decide +kernel) (by decide +kernel), lay2, tyX2_ok, nmX2⟩
theorem fk_X1_11 : FL RX1 11 1 0 7 := ⟨RX1, TX1, tyX1, rfl, by decide, mtb 203 (by decide +kernel) (by decide +kernel), lay1, tyX1_ok, nmX1⟩
theorem fk_X1_15 : FL RX1 15 1 1 7 := ⟨RX1, TX1, tyX1, rfl, by decide, mtb 204 (by decide +kernel) (by decide +kernel), lay1, tyX1_ok, nmX1⟩
theorem fk_X1_18 : FL RX1 18 1 3 7 := ⟨RX1, TX1, tyX1, rfl, by decide, mtb 207 (by decide +kernel) (by decide +kernel), lay1, tyX1_ok, nmX1⟩
theorem fk_X1_21 : FL RX1 21 1 4 7 := ⟨RX1, TX1, tyX1, rfl, by decide, mtb 208 (by decide +kernel) (by decide +kernel), lay1, tyX1_ok, nmX1⟩
theorem fk_X1_24 : FL RX1 24 2 4 12 := ⟨RX2, TX2, tyX2, rfl, by decide, mtb 81 (by decide +kernel) (by decide +kernel), lay2, tyX2_ok, nmX2⟩
theorem fk_X1_30 : FL RX1 30 1 2 7 := ⟨RX1, TX1, tyX1, rfl, by decide, mtb 206 (by decide +kernel) (by decide +kernel), lay1, tyX1_ok, nmX1⟩
theorem fk_X1_35 : FL RX1 35 2 6 12 := ⟨RX2, TX2, tyX2, rfl, by decide, mtb 90 (by decide +kernel) (by decide +kernel), lay2, tyX2_ok, nmX2⟩
theorem fk_X1_36 : FL RX1 36 7 5 7 := ⟨RX7, TX7, tyX7, rfl, by decide, mtb 157 (by decide +kernel) (by decide +kernel), lay7, tyX7_ok, nmX7⟩
theorem fk_X1_49 : FL RX1 49 1 5 7 := ⟨RX1, TX1, tyX1, rfl, by decide, mtb 209 (by decide +kernel) (by decide +kernel), lay1, tyX1_ok, nmX1⟩
theorem fk_X1_51 : FL RX1 51 7 6 7 := ⟨RX7, TX7, tyX7, rfl, by decide, mtb 160 (by decide +kernel) (by decide +kernel), lay7, tyX7_ok, nmX7⟩
theorem fk_X1_54 : FL RX1 54 1 6 7 := ⟨RX1, TX1, tyX1, rfl, by decide, mtb 210 (by decide +kernel) (by decide +kernel), lay1, tyX1_ok, nmX1⟩
theorem fk_X1_89 : FL RX1 89 2 0 12 := ⟨RX2, TX2, tyX2, rfl, by decide, mtb 68 (by decide +kernel) (by decide +kernel), lay2, tyX2_ok, nmX2⟩
theorem fk_X2_9 : FL RX2 9 2 1 12 := ⟨RX2, TX2, tyX2, rfl, by decide, mtb 70 (by decide +kernel) (by decide +kernel), lay2, tyX2_ok, nmX2⟩
theorem fk_X2_15 : FL RX2 15 2 2 12 := ⟨RX2, TX2, tyX2, rfl, by decide, mtb 73 (by decide +kernel) (by decide +kernel), lay2, tyX2_ok, nmX2⟩
theorem fk_X2_18 : FL RX2 18 2 3 12 := ⟨RX2, TX2, tyX2, rfl, by decide, mtb 76 (by decide +kernel) (by decide +kernel), lay2, tyX2_ok, nmX2⟩
theorem fk_X2_21 : FL RX2 21 2 5 12 := ⟨RX2, TX2, tyX2, rfl, by decide, mtb 85 (by decide +kernel) (by decide +kernel), lay2, tyX2_ok, nmX2⟩
theorem fk_X2_24 : FL RX2 24 2 6 12 := ⟨RX2, TX2, tyX2, rfl, by decide, mtb 89 (by decide +kernel) (by decide +kernel), lay2, tyX2_ok, nmX2⟩
theorem fk_X2_27 : FL RX2 27 2 8 12 := ⟨RX2, TX2, tyX2, rfl, by decide, mtb 98 (by decide +kernel) (by decide +kernel), lay2, tyX2_ok, nmX2⟩
theorem fk_X2_33 : FL RX2 33 2 0 12 := ⟨RX2, TX2, tyX2, rfl, by decide, mtb 64 (by decide +kernel) (by decide +kernel), lay2, tyX2_ok, nmX2⟩
theorem fk_X2_37 : FL RX2 37 2 4 12 := ⟨RX2, TX2, tyX2, rfl, by decide, mtb 82 (by decide +kernel) (by decide +kernel), lay2, tyX2_ok, nmX2⟩
theorem fk_X2_40 : FL RX2 40 2 7 12 := ⟨RX2, TX2, tyX2, rfl, by decide, mtb 95 (by decide +kernel) (by decide +kernel), lay2, tyX2_ok, nmX2⟩
theorem fk_X2_43 : FL RX2 43 2 9 12 := ⟨RX2, TX2, tyX2, rfl, by decide, mtb 102 (by decide +kernel) (by decide +kernel), lay2, tyX2_ok, nmX2⟩
theorem fk_X2_46 : FL RX2 46 2 10 12 := ⟨RX2, TX2, tyX2, rfl, by decide, mtb 106 (by decide +kernel) (by decide +kernel), lay2, tyX2_ok, nmX2⟩
theorem fk_X2_49 : FL RX2 49 2 11 12 := ⟨RX2, TX2, tyX2, rfl, by decide, mtb 110 (by decide +kernel) (by decide +kernel), lay2, tyX2_ok, nmX2⟩
theorem fk_X3_9 : FL RX3 9 3 1 2 := ⟨RX3, TX3, tyX3, rfl, by decide, mtb 265 (by decide +kernel) (by decide +kernel), lay3, tyX3_ok, nmX3⟩
theorem fk_X3_15 : FL RX3 15 3 0 2 := ⟨RX3, TX3, tyX3, rfl, by decide, mtb 264 (by decide +kernel) (by decide +kernel), lay3, tyX3_ok, nmX3⟩
theorem fk_X3_18 : FL RX3 18 2 7 12 := ⟨RX2, TX2, tyX2, rfl, by decide, mtb 94 (by decide +kernel) (by decide +kernel), lay2, tyX2_ok, nmX2⟩
theorem fk_X3_24 : FL RX3 24 2 8 12 := ⟨RX2, TX2, tyX2, rfl, by decide, mtb 99 (by decide +kernel) (by decide +kernel), lay2, tyX2_ok, nmX2⟩
theorem fk_X3_27 : FL RX3 27 2 9 12 := ⟨RX2, TX2, tyX2, rfl, by decide, mtb 103 (by decide +kernel) (by decide +kernel), lay2, tyX2_ok, nmX2⟩
theorem fk_X4_9 : FL RX4 9 4 0 3 := ⟨RX4, TX4, tyX4, rfl, by decide, mtb 277 (by decide +kernel) (by decide +kernel), lay4, tyX4_ok, nmX4⟩
theorem fk_X4_15 : FL RX4 15 4 1 3 := ⟨RX4, TX4, tyX4, rfl, by decide, mtb 278 (by decide +kernel) (by decide +kernel), lay4, tyX4_ok, nmX4⟩
theorem fk_X4_18 : FL RX4 18 4 2 3 := ⟨RX4, TX4, tyX4, rfl, by decide, mtb 279 (by decide +kernel) (by decide +kernel), lay4, tyX4_ok, nmX4⟩
theorem fk_X4_22 : FL RX4 22 2 5 12 := ⟨RX2, TX2, tyX2, rfl, by decide, mtb 86 (by decide +kernel) (by decide +kernel), lay2, tyX2_ok, nmX2⟩
theorem fk_X5_11 : FL RX5 11 5 0 3 := ⟨RX5, TX5, tyX5, rfl, by decide, mtb 186 (by decide +kernel) (by decide +kernel), lay5, tyX5_ok, nmX5⟩
theorem fk_X5_18 : FL RX5 18 5 1 3 := ⟨RX5, TX5, tyX5, rfl, by decide, mtb 187 (by decide +kernel) (by decide +kernel), lay5, tyX5_ok, nmX5⟩
theorem fk_X5_22 : FL RX5 22 5 2 3 := ⟨RX5, TX5, tyX5, rfl, by decide, mtb 188 (by decide +kernel) (by decide +kernel), lay5, tyX5_ok, nmX5⟩
theorem fk_X6_9 : FL RX6 9 6 0 7 := ⟨RX6, TX6, tyX6, rfl, by decide, mtb 29 (by decide +kernel) (by decide +kernel), lay6, tyX6_ok, nmX6⟩
theorem fk_X6_15 : FL RX6 15 6 1 7 := ⟨RX6, TX6, tyX6, rfl, by decide, mtb 30 (by decide +kernel) (by decide +kernel), lay6, tyX6_ok, nmX6⟩
theorem fk_X6_19 : FL RX6 19 6 2 7 := ⟨RX6, TX6, tyX6, rfl, by decide, mtb 32 (by decide +kernel) (by decide +kernel), lay6, tyX6_ok, nmX6⟩
theorem fk_X6_27 : FL RX6 27 6 3 7 := ⟨RX6, TX6, tyX6, rfl, by decide, mtb 34 (by decide +kernel) (by decide +kernel), lay6, tyX6_ok, nmX6⟩
theorem fk_X6_30 : FL RX6 30 6 4 7 := ⟨RX6, TX6, tyX6, rfl, by decide, mtb 35 (by decide +kernel) (by decide +kernel), lay6, tyX6_ok, nmX6⟩
theorem fk_X6_34 : FL RX6 34 6 5 7 := ⟨RX6, TX6, tyX6, rfl, by decide, mtb 36 (by decide +kernel) (by decide +kernel), lay6, tyX6_ok, nmX6⟩
theorem fk_X6_37 : FL RX6 37 6 6 7 := ⟨RX6, TX6, tyX6, rfl, by decide, mtb 37 (by decide +kernel) (by decide +kernel), lay6, tyX6_ok, nmX6⟩
theorem fk_X6_73 : FL RX6 73 2 0 12 := ⟨RX2, TX2, tyX2, rfl, by decide, mtb 66 (by decide +kernel) (by decide +kernel), lay2, tyX2_ok, nmX2⟩
theorem fk_X6_76 : FL RX6 76 2 1 12 := ⟨RX2, TX2, tyX2, rfl, by decide, mtb 72 (by decide +kernel) (by decide +kernel), lay2, tyX2_ok, nmX2⟩
theorem fk_X6_83 : FL RX6 83 2 2 12 := ⟨RX2, TX2, tyX2, rfl, by decide, mtb 74 (by decide +kernel) (by decide +kernel), lay2, tyX2_ok, nmX2⟩
theorem fk_X6_86 : FL RX6 86 2 3 12 := ⟨RX2, TX2, tyX2, rfl, by decide, mtb 80 (by decide +kernel) (by decide +kernel), lay2, tyX2_ok, nmX2⟩
theorem fk_X6_89 : FL RX6 89 2 4 12 := ⟨RX2, TX2, tyX2, rfl, by decide, mtb 83 (by decide +kernel) (by decide +kernel), lay2, tyX2_ok, nmX2⟩
theorem fk_X6_92 : FL RX6 92 2 5 12 := ⟨RX2, TX2, tyX2, rfl, by decide, mtb 87 (by decide +kernel) (by decide +kernel), lay2, tyX2_ok, nmX2⟩
theorem fk_X6_95 : FL RX6 95 2 6 12 := ⟨RX2, TX2, tyX2, rfl, by decide, mtb 92 (by decide +kernel) (by decide +kernel), lay2, tyX2_ok, nmX2⟩
theorem fk_X6_98 : FL RX6 98 2 7 12 := ⟨RX2, TX2, tyX2, rfl, by decide, mtb 96 (by decide +kernel) (by decide +kernel), lay2, tyX2_ok, nmX2⟩
theorem fk_X6_101 : FL RX6 101 2 8 12 := ⟨RX2, TX2, tyX2, rfl, by decide, mtb 101 (by decide +kernel) (by decide +kernel), lay2, tyX2_ok, nmX2⟩
theorem fk_X6_104 : FL RX6 104 2 9 12 := ⟨RX2, TX2, tyX2, rfl, by decide, mtb 104 (by decide +kernel) (by decide +kernel), lay2, tyX2_ok, nmX2⟩
theorem fk_X6_107 : FL RX6 107 2 10 12 := ⟨RX2, TX2, tyX2, rfl, by decide, mtb 107 (by decide +kernel) (by decide +kernel), lay2, tyX2_ok, nmX2⟩
theorem fk_X6_110 : FL RX6 110 2 11 12 := ⟨RX2, TX2, tyX2, rfl, by decide, mtb 111 (by decide +kernel) (by decide +kernel), lay2, tyX2_ok, nmX2⟩
theorem fk_X7_9 : FL RX7 9 7 5 7 := ⟨RX7, TX7, tyX7, rfl, by decide, mtb 156 (by decide +kernel) (by decide +kernel), lay7, tyX7_ok, nmX7⟩
theorem fk_X7_15 : FL RX7 15 7 6 7 := ⟨RX7, TX7, tyX7, rfl, by decide, mtb 159 (by decide +kernel) (by decide +kernel), lay7, tyX7_ok, nmX7⟩
theorem fk_X7_18 : FL RX7 18 7 0 7 := ⟨RX7, TX7, tyX7, rfl, by decide, mtb 144 (by decide +kernel) (by decide +kernel), lay7, tyX7_ok, nmX7⟩
theorem fk_X7_22 : FL RX7 22 7 1 7 := ⟨RX7, TX7, tyX7, rfl, by decide, mtb 146 (by decide +kernel) (by decide +kernel), lay7, tyX7_ok, nmX7⟩
theorem fk_X7_25 : FL RX7 25 7 2 7 := ⟨RX7, TX7, tyX7, rfl, by decide, mtb 149 (by decide +kernel) (by decide +kernel), lay7, tyX7_ok, nmX7⟩
theorem fk_X7_28 : FL RX7 28 7 3 7 := ⟨RX7, TX7, tyX7, rfl, by decide, mtb 152 (by decide +kernel) (by decide +kernel), lay7, tyX7_ok, nmX7⟩
theorem fk_X7_31 : FL RX7 31 7 4 7 := ⟨RX7, TX7, tyX7, rfl, by decide, mtb 154 (by decide +kernel) (by decide +kernel), lay7, tyX7_ok, nmX7⟩
theorem fk_X7_34 : FL RX7 34 2 1 12 := ⟨RX2, TX2, tyX2, rfl, by decide, mtb 71 (by decide +kernel) (by decide +kernel), lay2, tyX2_ok, nmX2⟩
theorem fk_X7_49 : FL RX7 49 2 0 12 := ⟨RX2, TX2, tyX2, rfl, by decide, mtb 67 (by decide +kernel) (by decide +kernel), lay2, tyX2_ok, nmX2⟩
theorem fk_X7_56 : FL RX7 56 2 3 12 := ⟨RX2, TX2, tyX2, rfl, by decide, mtb 78 (by decide +kernel) (by decide +kernel), lay2, tyX2_ok, nmX2⟩
theorem fk_X7_59 : FL RX7 59 2 6 12 := ⟨RX2, TX2, tyX2, rfl, by decide, mtb 91 (by decide +kernel) (by decide +kernel), lay2, tyX2_ok, nmX2⟩
theorem fk_X9_7 : FL RX9 7 9 2 30 := ⟨RX9, TX9, tyX9, rfl, by decide, mtb 701 (by decide +kernel) (by decide +kernel), lay9, tyX9_ok, nmX9⟩
theorem fk_X9_13 : FL RX9 13 9 9 30 := ⟨RX9, TX9, tyX9, rfl, by decide, mtb 708 (by decide +kernel) (by decide +kernel), lay9, tyX9_ok, nmX9⟩
theorem fk_X9_16 : FL RX9 16 9 11 30 := ⟨RX9, TX9, tyX9, rfl, by decide, mtb 710 (by decide +kernel) (by decide +kernel), lay9, tyX9_ok, nmX9⟩
theorem fk_X9_19 : FL RX9 19 9 12 30 := ⟨RX9, TX9, tyX9, rfl, by decide, mtb 711 (by decide +kernel) (by decide +kernel), lay9, tyX9_ok, nmX9⟩
theorem fk_X9_22 : FL RX9 22 9 13 30 := ⟨RX9, TX9, tyX9, rfl, by decide, mtb 712 (by decide +kernel) (by decide +kernel), lay9, tyX9_ok, nmX9⟩
theorem fk_X9_25 : FL RX9 25 9 14 30 := ⟨RX9, TX9, tyX9, rfl, by decide, mtb 713 (by decide +kernel) (by decide +kernel), lay9, tyX9_ok, nmX9⟩
theorem fk_X9_28 : FL RX9 28 9 15 30 := ⟨RX9, TX9, tyX9, rfl, by decide, mtb 714 (by decide +kernel) (by decide +kernel), lay9, tyX9_ok, nmX9⟩
theorem fk_X9_31 : FL RX9 31 9 16 30 := ⟨RX9, TX9, tyX9, rfl, by decide, mtb 715 (by decide +kernel) (by decide +kernel), lay9, tyX9_ok, nmX9⟩
theorem fk_X9_34 : FL RX9 34 9 17 30 := ⟨RX9, TX9, tyX9, rfl, by decide, mtb 716 (by decide +kernel) (by decide +kernel), lay9, tyX9_ok, nmX9⟩
theorem fk_X9_37 : FL RX9 37 9 18 30 := ⟨RX9, TX9, tyX9, rfl, by decide, mtb 717 (by decide +kernel) (by decide +kernel), lay9, tyX9_ok, nmX9⟩
theorem fk_X9_40 : FL RX9 40 9 19 30 := ⟨RX9, TX9, tyX9, rfl, by decide, mtb 718 (by decide +kernel) (by decide +kernel), lay9, tyX9_ok, nmX9⟩
theorem fk_X9_44 : FL RX9 44 9 20 30 := ⟨RX9, TX9, tyX9, rfl, by decide, mtb 719 (by decide +kernel) (by decide +kernel), lay9, tyX9_ok, nmX9⟩
theorem fk_X9_47 : FL RX9 47 9 22 30 := ⟨RX9, TX9, tyX9, rfl, by decide, mtb 721 (by decide +kernel) (by decide +kernel), lay9, tyX9_ok, nmX9⟩
theorem fk_X9_50 : FL RX9 50 9 23 30 := ⟨RX9, TX9, tyX9, rfl, by decide, mtb 722 (by decide +kernel) (by decide +kernel), lay9, tyX9_ok, nmX9⟩
theorem fk_X9_53 : FL RX9 53 9 25 30 := ⟨RX9, TX9, tyX9, rfl, by decide, mtb 724 (by decide +kernel) (by decide +kernel), lay9, tyX9_ok, nmX9⟩
theorem fk_X9_56 : FL RX9 56 9 26 30 := ⟨RX9, TX9, tyX9, rfl, by decide, mtb 725 (by decide +kernel) (by decide +kernel), lay9, tyX9_ok, nmX9⟩
theorem fk_X9_59 : FL RX9 59 9 27 30 := ⟨RX9, TX9, tyX9, rfl, by decide, mtb 726 (by decide +kernel) (by decide +kernel), lay9, tyX9_ok, nmX9⟩
theorem fk_X9_62 : FL RX9 62 9 28 30 := ⟨RX9, TX9, tyX9, rfl, by decide, mtb 727 (by decide +kernel) (by decide +kernel), lay9, tyX9_ok, nmX9⟩
theorem fk_X9_65 : FL RX9 65 9 29 30 := ⟨RX9, TX9, tyX9, rfl, by decide, mtb 728 (by decide +kernel) (by decide +kernel), lay9, tyX9_ok, nmX9⟩
theorem fk_X9_74 : FL RX9 74 9 0 30 := ⟨RX9, TX9, tyX9, rfl, by decide, mtb 699 (by decide +kernel) (by decide +kernel), lay9, tyX9_ok, nmX9⟩
theorem fk_X9_82 : FL RX9 82 9 3 30 := ⟨RX9, TX9, tyX9, rfl, by decide, mtb 702 (by decide +kernel) (by decide +kernel), lay9, tyX9_ok, nmX9⟩
theorem fk_X9_85 : FL RX9 85 9 4 30 := ⟨RX9, TX9, tyX9, rfl, by decide, mtb 703 (by decide +kernel) (by decide +kernel), lay9, tyX9_ok, nmX9⟩
theorem fk_X9_92 : FL RX9 92 9 6 30 := ⟨RX9, TX9, tyX9, rfl, by decide, mtb 705 (by decide +kernel) (by decide +kernel), lay9, tyX9_ok, nmX9⟩
theorem fk_X9_95 : FL RX9 95 9 5 30 := ⟨RX9, TX9, tyX9, rfl, by decide, mtb 704 (by decide +kernel) (by decide +kernel), lay9, tyX9_ok, nmX9⟩
theorem fk_X9_98 : FL RX9 98 9 7 30 := ⟨RX9, TX9, tyX9, rfl, by decide, mtb 706 (by decide +kernel) (by decide +kernel), lay9, tyX9_ok, nmX9⟩
theorem fk_X9_105 : FL RX9 105 9 8 30 := ⟨RX9, TX9, tyX9, rfl, by decide, mtb 707 (by decide +kernel) (by decide +kernel), lay9, tyX9_ok, nmX9⟩
theorem fk_X9_119 : FL RX9 119 9 10 30 := ⟨RX9, TX9, tyX9, rfl, by decide, mtb 709 (by decide +kernel) (by decide +kernel), lay9, tyX9_ok, nmX9⟩
theorem fk_X9_136 : FL RX9 136 9 24 30 := ⟨RX9, TX9, tyX9, rfl, by decide, mtb 723 (by decide +kernel) (by decide +kernel), lay9, tyX9_ok, nmX9⟩
theorem fk_X9_139 : FL RX9 139 9 21 30 := ⟨RX9, TX9, tyX9, rfl, by decide, mtb 720 (by decide +kernel) (by decide +kernel), lay9, tyX9_ok, nmX9⟩
theorem fk_X9_201 : FL RX9 201 9 1 30 := ⟨RX9, TX9, tyX9, rfl, by decide, mtb 700 (by decide +kernel) (by decide +kernel), lay9, tyX9_ok, nmX9⟩
theorem fw_0_1 : FW 0 1 .int := by
  intro C T N h
  have h2 : some (RX0, TX0, 7) = some (C, T, N) := h
  cases h2
  exact ⟨rfl, by decide +kernel⟩
theorem fw_0_2 : FW 0 2 .int := by
  intro C T N h
  have h2 : some (RX0, TX0, 7) = some (C, T, N) := h
  cases h2
  exact ⟨rfl, by decide +kernel⟩
theorem fw_0_3 : FW 0 3 .int := by
  intro C T N h
  have h2 : some (RX0, TX0, 7) = some (C, T, N) := h
  cases h2
  exact ⟨rfl, by decide +kernel⟩
theorem fw_0_6 : FW 0 6 .int := by
  intro C T N h
  have h2 : some (RX0, TX0, 7) = some (C, T, N) := h
  cases h2
  exact ⟨rfl, by decide +kernel⟩
theorem fw_1_2 : FW 1 2 .int := by
  intro C T N h
  have h2 : some (RX1, TX1, 7) = some (C, T, N) := h
  cases h2
  exact ⟨rfl, by decide +kernel⟩
theorem fw_1_5 : FW 1 5 .int := by
  intro C T N h
  have h2 : some (RX1, TX1, 7) = some (C, T, N) := h
  cases h2
  exact ⟨rfl, by decide +kernel⟩
theorem fw_1_6 : FW 1 6 .int := by
  intro C T N h
  have h2 : some (RX1, TX1, 7) = some (C, T, N) := h
  cases h2
  exact ⟨rfl, by decide +kernel⟩
theorem fw_2_0 : FW 2 0 .int := by
  intro C T N h
  have h2 : some (RX2, TX2, 12) = some (C, T, N) := h
  cases h2
  exact ⟨rfl, by decide +kernel⟩
theorem fw_2_4 : FW 2 4 .int := by
  intro C T N h
  have h2 : some (RX2, TX2, 12) = some (C, T, N) := h
  cases h2
  exact ⟨rfl, by decide +kernel⟩
theorem fw_2_7 : FW 2 7 .int := by
  intro C T N h
  have h2 : some (RX2, TX2, 12) = some (C, T, N) := h
  cases h2
  exact ⟨rfl, by decide +kernel⟩
theorem fw_2_9 : FW 2 9 .int := by
  intro C T N h
  have h2 : some (RX2, TX2, 12) = some (C, T, N) := h
  cases h2
  exact ⟨rfl, by decide +kernel⟩
theorem fw_2_10 : FW 2 10 .int := by
  intro C T N h
  have h2 : some (RX2, TX2, 12) = some (C, T, N) := h
  cases h2
  exact ⟨rfl, by decide +kernel⟩
theorem fw_2_11 : FW 2 11 .int := by
  intro C T N h
  have h2 : some (RX2, TX2, 12) = some (C, T, N) := h
  cases h2
  exact ⟨rfl, by decide +kernel⟩
theorem fw_4_2 : FW 4 2 .int := by
  intro C T N h
  have h2 : some (RX4, TX4, 3) = some (C, T, N) := h
  cases h2
  exact ⟨rfl, by decide +kernel⟩
theorem fw_5_1 : FW 5 1 .int := by
  intro C T N h
  have h2 : some (RX5, TX5, 3) = some (C, T, N) := h
  cases h2
  exact ⟨rfl, by decide +kernel⟩
theorem fw_5_2 : FW 5 2 .int := by
  intro C T N h
  have h2 : some (RX5, TX5, 3) = some (C, T, N) := h
  cases h2
  exact ⟨rfl, by decide +kernel⟩
theorem fw_6_1 : FW 6 1 .int := by
  intro C T N h
  have h2 : some (RX6, TX6, 7) = some (C, T, N) := h
  cases h2
  exact ⟨rfl, by decide +kernel⟩
theorem fw_6_2 : FW 6 2 .int := by
  intro C T N h
  have h2 : some (RX6, TX6, 7) = some (C, T, N) := h
  cases h2
  exact ⟨rfl, by decide +kernel⟩
theorem fw_6_3 : FW 6 3 .int := by
  intro C T N h
  have h2 : some (RX6, TX6, 7) = some (C, T, N) := h
  cases h2
  exact ⟨rfl, by decide +kernel⟩
theorem fw_6_4 : FW 6 4 .boolean := by
  intro C T N h
  have h2 : some (RX6, TX6, 7) = some (C, T, N) := h
  cases h2
  exact ⟨rfl, by decide +kernel⟩
theorem fw_6_5 : FW 6 5 .boolean := by
  intro C T N h
  have h2 : some (RX6, TX6, 7) = some (C, T, N) := h
  cases h2
  exact ⟨rfl, by decide +kernel⟩
theorem fw_6_6 : FW 6 6 .boolean := by
  intro C T N h
  have h2 : some (RX6, TX6, 7) = some (C, T, N) := h
  cases h2
  exact ⟨rfl, by decide +kernel⟩
theorem fw_7_0 : FW 7 0 .int := by
  intro C T N h
  have h2 : some (RX7, TX7, 7) = some (C, T, N) := h
  cases h2
  exact ⟨rfl, by decide +kernel⟩
theorem fw_7_1 : FW 7 1 .int := by
  intro C T N h
  have h2 : some (RX7, TX7, 7) = some (C, T, N) := h
  cases h2
  exact ⟨rfl, by decide +kernel⟩
theorem fw_7_2 : FW 7 2 .int := by
  intro C T N h
  have h2 : some (RX7, TX7, 7) = some (C, T, N) := h
  cases h2
  exact ⟨rfl, by decide +kernel⟩
theorem fw_7_3 : FW 7 3 .int := by
  intro C T N h
  have h2 : some (RX7, TX7, 7) = some (C, T, N) := h
  cases h2
  exact ⟨rfl, by decide +kernel⟩
theorem fw_7_4 : FW 7 4 .int := by
  intro C T N h
  have h2 : some (RX7, TX7, 7) = some (C, T, N) := h
  cases h2
  exact ⟨rfl, by decide +kernel⟩
theorem fw_8_1 : FW 8 1 (.object "DoorCases$House") := by
  intro C T N h
  have h2 : some (RX8, TX8, 13) = some (C, T, N) := h
  cases h2
  exact ⟨rfl, by decide +kernel⟩
theorem fw_8_2 : FW 8 2 (.object "DoorCases$House") := by
  intro C T N h
  have h2 : some (RX8, TX8, 13) = some (C, T, N) := h
  cases h2
  exact ⟨rfl, by decide +kernel⟩
theorem fw_8_6 : FW 8 6 .int := by
  intro C T N h
  have h2 : some (RX8, TX8, 13) = some (C, T, N) := h
  cases h2
  exact ⟨rfl, by decide +kernel⟩
theorem fw_8_12 : FW 8 12 .long := by
  intro C T N h
  have h2 : some (RX8, TX8, 13) = some (C, T, N) := h
  cases h2
  exact ⟨rfl, by decide +kernel⟩
theorem fw_9_0 : FW 9 0 .int := by
  intro C T N h
  have h2 : some (RX9, TX9, 30) = some (C, T, N) := h
  cases h2
  exact ⟨rfl, by decide +kernel⟩
theorem fw_9_1 : FW 9 1 .long := by
  intro C T N h
  have h2 : some (RX9, TX9, 30) = some (C, T, N) := h
  cases h2
  exact ⟨rfl, by decide +kernel⟩
theorem fw_9_3 : FW 9 3 .int := by
  intro C T N h
  have h2 : some (RX9, TX9, 30) = some (C, T, N) := h
  cases h2
  exact ⟨rfl, by decide +kernel⟩
theorem fw_9_4 : FW 9 4 .int := by
  intro C T N h
  have h2 : some (RX9, TX9, 30) = some (C, T, N) := h
  cases h2
  exact ⟨rfl, by decide +kernel⟩
theorem fw_9_5 : FW 9 5 .int := by
  intro C T N h
  have h2 : some (RX9, TX9, 30) = some (C, T, N) := h
  cases h2
  exact ⟨rfl, by decide +kernel⟩
theorem fw_9_6 : FW 9 6 .int := by
  intro C T N h
  have h2 : some (RX9, TX9, 30) = some (C, T, N) := h
  cases h2
  exact ⟨rfl, by decide +kernel⟩
theorem fw_9_7 : FW 9 7 .int := by
  intro C T N h
  have h2 : some (RX9, TX9, 30) = some (C, T, N) := h
  cases h2
  exact ⟨rfl, by decide +kernel⟩
theorem fw_9_8 : FW 9 8 .int := by
  intro C T N h
  have h2 : some (RX9, TX9, 30) = some (C, T, N) := h
  cases h2
  exact ⟨rfl, by decide +kernel⟩
theorem fw_9_10 : FW 9 10 .int := by
  intro C T N h
  have h2 : some (RX9, TX9, 30) = some (C, T, N) := h
  cases h2
  exact ⟨rfl, by decide +kernel⟩
theorem fw_9_21 : FW 9 21 .int := by
  intro C T N h
  have h2 : some (RX9, TX9, 30) = some (C, T, N) := h
  cases h2
  exact ⟨rfl, by decide +kernel⟩
theorem fw_9_24 : FW 9 24 .int := by
  intro C T N h
  have h2 : some (RX9, TX9, 30) = some (C, T, N) := h
  cases h2
  exact ⟨rfl, by decide +kernel⟩
theorem mk_X8_87 : ML RX8 87 yX6_add 1 := ⟨mtb 332 (by decide +kernel) (by decide +kernel), mtb 2 (by decide +kernel) (by decide +kernel), by decide +kernel, by decide +kernel, by decide +kernel⟩
theorem mk_X8_91 : ML RX8 91 yX6_readInto 1 := ⟨mtb 344 (by decide +kernel) (by decide +kernel), mtb 2 (by decide +kernel) (by decide +kernel), by decide +kernel, by decide +kernel, by decide +kernel⟩
theorem mk_X8_98 : ML RX8 98 yX7_beginIn 1 := ⟨mtb 399 (by decide +kernel) (by decide +kernel), mtb 4 (by decide +kernel) (by decide +kernel), by decide +kernel, by decide +kernel, by decide +kernel⟩
theorem mk_X8_102 : ML RX8 102 yX5_lose 0 := ⟨mtb 409 (by decide +kernel) (by decide +kernel), mtb 5 (by decide +kernel) (by decide +kernel), by decide +kernel, by decide +kernel, by decide +kernel⟩
theorem mk_X8_108 : ML RX8 108 yX2_hasRoom 1 := ⟨mtb 417 (by decide +kernel) (by decide +kernel), mtb 3 (by decide +kernel) (by decide +kernel), by decide +kernel, by decide +kernel, by decide +kernel⟩
theorem mk_X8_122 : ML RX8 122 yX7_isSolved 1 := ⟨mtb 422 (by decide +kernel) (by decide +kernel), mtb 4 (by decide +kernel) (by decide +kernel), by decide +kernel, by decide +kernel, by decide +kernel⟩
theorem mk_X8_128 : ML RX8 128 yX2_hasDoing 1 := ⟨mtb 430 (by decide +kernel) (by decide +kernel), mtb 3 (by decide +kernel) (by decide +kernel), by decide +kernel, by decide +kernel, by decide +kernel⟩
theorem mk_X8_155 : ML RX8 155 yX7_earnedIn 1 := ⟨mtb 442 (by decide +kernel) (by decide +kernel), mtb 4 (by decide +kernel) (by decide +kernel), by decide +kernel, by decide +kernel, by decide +kernel⟩
theorem mk_X8_161 : ML RX8 161 yX3_leftOf 2 := ⟨mtb 447 (by decide +kernel) (by decide +kernel), mtb 8 (by decide +kernel) (by decide +kernel), by decide +kernel, by decide +kernel, by decide +kernel⟩
theorem mk_X8_166 : ML RX8 166 yX2_walkBetween 2 := ⟨mtb 454 (by decide +kernel) (by decide +kernel), mtb 3 (by decide +kernel) (by decide +kernel), by decide +kernel, by decide +kernel, by decide +kernel⟩
theorem mk_X8_170 : ML RX8 170 yX5_remember 1 := ⟨mtb 461 (by decide +kernel) (by decide +kernel), mtb 5 (by decide +kernel) (by decide +kernel), by decide +kernel, by decide +kernel, by decide +kernel⟩
theorem mk_X8_174 : ML RX8 174 yX7_takeDoing 3 := ⟨mtb 474 (by decide +kernel) (by decide +kernel), mtb 4 (by decide +kernel) (by decide +kernel), by decide +kernel, by decide +kernel, by decide +kernel⟩
theorem mk_X8_181 : ML RX8 181 yX5_restore 1 := ⟨mtb 493 (by decide +kernel) (by decide +kernel), mtb 5 (by decide +kernel) (by decide +kernel), by decide +kernel, by decide +kernel, by decide +kernel⟩
theorem mk_X8_184 : ML RX8 184 yX1_solve 3 := ⟨mtb 501 (by decide +kernel) (by decide +kernel), mtb 6 (by decide +kernel) (by decide +kernel), by decide +kernel, by decide +kernel, by decide +kernel⟩
theorem mk_X8_188 : ML RX8 188 yX1_isNever 0 := ⟨mtb 524 (by decide +kernel) (by decide +kernel), mtb 6 (by decide +kernel) (by decide +kernel), by decide +kernel, by decide +kernel, by decide +kernel⟩
theorem mk_X8_192 : ML RX8 192 yX1_minutesNeeded 0 := ⟨mtb 532 (by decide +kernel) (by decide +kernel), mtb 6 (by decide +kernel) (by decide +kernel), by decide +kernel, by decide +kernel, by decide +kernel⟩
theorem mk_X8_196 : ML RX8 196 yX1_doingsNeeded 0 := ⟨mtb 536 (by decide +kernel) (by decide +kernel), mtb 6 (by decide +kernel) (by decide +kernel), by decide +kernel, by decide +kernel, by decide +kernel⟩
theorem mk_X8_199 : ML RX8 199 yX1_doingAt 1 := ⟨mtb 540 (by decide +kernel) (by decide +kernel), mtb 6 (by decide +kernel) (by decide +kernel), by decide +kernel, by decide +kernel, by decide +kernel⟩
theorem mk_X8_203 : ML RX8 203 yX1_solveAll 2 := ⟨mtb 553 (by decide +kernel) (by decide +kernel), mtb 6 (by decide +kernel) (by decide +kernel), by decide +kernel, by decide +kernel, by decide +kernel⟩
theorem mk_X8_213 : ML RX8 213 yX0_plan 3 := ⟨mtb 565 (by decide +kernel) (by decide +kernel), mtb 7 (by decide +kernel) (by decide +kernel), by decide +kernel, by decide +kernel, by decide +kernel⟩
theorem mk_X8_229 : ML RX8 229 yJ6_bitCount_0f7a4 1 := ⟨mtb 583 (by decide +kernel) (by decide +kernel), mtb 14 (by decide +kernel) (by decide +kernel), by decide +kernel, by decide +kernel, by decide +kernel⟩
theorem mk_X8_234 : ML RX8 234 yX1_cheapestBut 1 := ⟨mtb 589 (by decide +kernel) (by decide +kernel), mtb 6 (by decide +kernel) (by decide +kernel), by decide +kernel, by decide +kernel, by decide +kernel⟩
theorem mk_X8_237 : ML RX8 237 yX3_bestTrait 2 := ⟨mtb 597 (by decide +kernel) (by decide +kernel), mtb 8 (by decide +kernel) (by decide +kernel), by decide +kernel, by decide +kernel, by decide +kernel⟩
theorem mk_X8_240 : ML RX8 240 yX3_mostNeeded 2 := ⟨mtb 610 (by decide +kernel) (by decide +kernel), mtb 8 (by decide +kernel) (by decide +kernel), by decide +kernel, by decide +kernel, by decide +kernel⟩
theorem mk_X8_243 : ML RX8 243 yX4_add 2 := ⟨mtb 623 (by decide +kernel) (by decide +kernel), mtb 9 (by decide +kernel) (by decide +kernel), by decide +kernel, by decide +kernel, by decide +kernel⟩
theorem mk_X8_246 : ML RX8 246 yX4_agreesWith 2 := ⟨mtb 635 (by decide +kernel) (by decide +kernel), mtb 9 (by decide +kernel) (by decide +kernel), by decide +kernel, by decide +kernel, by decide +kernel⟩
theorem mk_X8_250 : ML RX8 250 yX2_fullLoss 2 := ⟨mtb 643 (by decide +kernel) (by decide +kernel), mtb 3 (by decide +kernel) (by decide +kernel), by decide +kernel, by decide +kernel, by decide +kernel⟩
theorem mk_X8_253 : ML RX8 253 yX8_countChances 2 := ⟨mtb 648 (by decide +kernel) (by decide +kernel), mtb 1 (by decide +kernel) (by decide +kernel), by decide +kernel, by decide +kernel, by decide +kernel⟩
theorem mk_X8_256 : ML RX8 256 yX8_commonDivisor 2 := ⟨mtb 653 (by decide +kernel) (by decide +kernel), mtb 1 (by decide +kernel) (by decide +kernel), by decide +kernel, by decide +kernel, by decide +kernel⟩
theorem mk_X8_259 : ML RX8 259 yX8_rateAs 2 := ⟨mtb 660 (by decide +kernel) (by decide +kernel), mtb 1 (by decide +kernel) (by decide +kernel), by decide +kernel, by decide +kernel, by decide +kernel⟩
theorem mk_X8_262 : ML RX8 262 yX7_copyOf 1 := ⟨mtb 672 (by decide +kernel) (by decide +kernel), mtb 4 (by decide +kernel) (by decide +kernel), by decide +kernel, by decide +kernel, by decide +kernel⟩
theorem mk_X8_280 : ML RX8 280 yJ7_fill_53178 2 := ⟨mtb 652 (by decide +kernel) (by decide +kernel), mtb 13 (by decide +kernel) (by decide +kernel), by decide +kernel, by decide +kernel, by decide +kernel⟩
theorem mk_X0_53 : ML RX0 53 yX0_extend 6 := ⟨mtb 570 (by decide +kernel) (by decide +kernel), mtb 7 (by decide +kernel) (by decide +kernel), by decide +kernel, by decide +kernel, by decide +kernel⟩
theorem mk_X0_60 : ML RX0 60 yX2_walkBetween 2 := ⟨mtb 574 (by decide +kernel) (by decide +kernel), mtb 3 (by decide +kernel) (by decide +kernel), by decide +kernel, by decide +kernel, by decide +kernel⟩
theorem mk_X0_67 : ML RX0 67 yX0_weigh 3 := ⟨mtb 575 (by decide +kernel) (by decide +kernel), mtb 7 (by decide +kernel) (by decide +kernel), by decide +kernel, by decide +kernel, by decide +kernel⟩
theorem mk_X1_31 : ML RX1 31 yX2_fullLoss 2 := ⟨mtb 505 (by decide +kernel) (by decide +kernel), mtb 3 (by decide +kernel) (by decide +kernel), by decide +kernel, by decide +kernel, by decide +kernel⟩
theorem mk_X1_58 : ML RX1 58 yJ7_fill_53178 2 := ⟨mtb 511 (by decide +kernel) (by decide +kernel), mtb 13 (by decide +kernel) (by decide +kernel), by decide +kernel, by decide +kernel, by decide +kernel⟩
theorem mk_X1_64 : ML RX1 64 yX1_solveLevel 1 := ⟨mtb 512 (by decide +kernel) (by decide +kernel), mtb 6 (by decide +kernel) (by decide +kernel), by decide +kernel, by decide +kernel, by decide +kernel⟩
theorem mk_X1_68 : ML RX1 68 yX1_indexOf 2 := ⟨mtb 516 (by decide +kernel) (by decide +kernel), mtb 6 (by decide +kernel) (by decide +kernel), by decide +kernel, by decide +kernel, by decide +kernel⟩
theorem mk_X1_71 : ML RX1 71 yX1_costThrough 3 := ⟨mtb 519 (by decide +kernel) (by decide +kernel), mtb 6 (by decide +kernel) (by decide +kernel), by decide +kernel, by decide +kernel, by decide +kernel⟩
theorem mk_X1_79 : ML RX1 79 yX1_costNow 0 := ⟨mtb 528 (by decide +kernel) (by decide +kernel), mtb 6 (by decide +kernel) (by decide +kernel), by decide +kernel, by decide +kernel, by decide +kernel⟩
theorem mk_X1_83 : ML RX1 83 yX1_doingsNeeded 0 := ⟨mtb 544 (by decide +kernel) (by decide +kernel), mtb 6 (by decide +kernel) (by decide +kernel), by decide +kernel, by decide +kernel, by decide +kernel⟩
theorem mk_X1_86 : ML RX1 86 yX1_firstOfBest 2 := ⟨mtb 545 (by decide +kernel) (by decide +kernel), mtb 6 (by decide +kernel) (by decide +kernel), by decide +kernel, by decide +kernel, by decide +kernel⟩
theorem mk_X1_92 : ML RX1 92 yX7_isSolved 1 := ⟨mtb 557 (by decide +kernel) (by decide +kernel), mtb 4 (by decide +kernel) (by decide +kernel), by decide +kernel, by decide +kernel, by decide +kernel⟩
theorem mk_X1_96 : ML RX1 96 yX1_solve 3 := ⟨mtb 558 (by decide +kernel) (by decide +kernel), mtb 6 (by decide +kernel) (by decide +kernel), by decide +kernel, by decide +kernel, by decide +kernel⟩
theorem mk_X1_100 : ML RX1 100 yX1_isNever 0 := ⟨mtb 559 (by decide +kernel) (by decide +kernel), mtb 6 (by decide +kernel) (by decide +kernel), by decide +kernel, by decide +kernel, by decide +kernel⟩
theorem mk_X1_104 : ML RX1 104 yX1_minutesNeeded 0 := ⟨mtb 560 (by decide +kernel) (by decide +kernel), mtb 6 (by decide +kernel) (by decide +kernel), by decide +kernel, by decide +kernel, by decide +kernel⟩
theorem mk_X2_30 : ML RX2 30 yX2_tellNothing 0 := ⟨mtb 60 (by decide +kernel) (by decide +kernel), mtb 3 (by decide +kernel) (by decide +kernel), by decide +kernel, by decide +kernel, by decide +kernel⟩
theorem mk_X3_30 : ML RX3 30 yX3_leftOf 2 := ⟨mtb 600 (by decide +kernel) (by decide +kernel), mtb 8 (by decide +kernel) (by decide +kernel), by decide +kernel, by decide +kernel, by decide +kernel⟩
theorem mk_X3_34 : ML RX3 34 yJ6_bitCount_0f7a4 1 := ⟨mtb 601 (by decide +kernel) (by decide +kernel), mtb 14 (by decide +kernel) (by decide +kernel), by decide +kernel, by decide +kernel, by decide +kernel⟩
theorem mk_X3_40 : ML RX3 40 yX3_withTrait 2 := ⟨mtb 602 (by decide +kernel) (by decide +kernel), mtb 8 (by decide +kernel) (by decide +kernel), by decide +kernel, by decide +kernel, by decide +kernel⟩
theorem mk_X3_49 : ML RX3 49 yX3_neededOf 1 := ⟨mtb 614 (by decide +kernel) (by decide +kernel), mtb 8 (by decide +kernel) (by decide +kernel), by decide +kernel, by decide +kernel, by decide +kernel⟩
theorem mk_X5_25 : ML RX5 25 yX7_copyOf 1 := ⟨mtb 465 (by decide +kernel) (by decide +kernel), mtb 4 (by decide +kernel) (by decide +kernel), by decide +kernel, by decide +kernel, by decide +kernel⟩
theorem mk_X6_22 : ML RX6 22 yX2_tellNothing 0 := ⟨mtb 348 (by decide +kernel) (by decide +kernel), mtb 3 (by decide +kernel) (by decide +kernel), by decide +kernel, by decide +kernel, by decide +kernel⟩
theorem mk_X6_40 : ML RX6 40 yX6_skipBlanks 0 := ⟨mtb 349 (by decide +kernel) (by decide +kernel), mtb 2 (by decide +kernel) (by decide +kernel), by decide +kernel, by decide +kernel, by decide +kernel⟩
theorem mk_X6_43 : ML RX6 43 yX6_readItem 1 := ⟨mtb 353 (by decide +kernel) (by decide +kernel), mtb 2 (by decide +kernel) (by decide +kernel), by decide +kernel, by decide +kernel, by decide +kernel⟩
theorem mk_X6_47 : ML RX6 47 yX6_readRoom 1 := ⟨mtb 357 (by decide +kernel) (by decide +kernel), mtb 2 (by decide +kernel) (by decide +kernel), by decide +kernel, by decide +kernel, by decide +kernel⟩
theorem mk_X6_50 : ML RX6 50 yX6_readEnd 0 := ⟨mtb 375 (by decide +kernel) (by decide +kernel), mtb 2 (by decide +kernel) (by decide +kernel), by decide +kernel, by decide +kernel, by decide +kernel⟩
theorem mk_X6_54 : ML RX6 54 yX6_readDoing 1 := ⟨mtb 379 (by decide +kernel) (by decide +kernel), mtb 2 (by decide +kernel) (by decide +kernel), by decide +kernel, by decide +kernel, by decide +kernel⟩
theorem mk_X6_57 : ML RX6 57 yX6_readSuspect 1 := ⟨mtb 383 (by decide +kernel) (by decide +kernel), mtb 2 (by decide +kernel) (by decide +kernel), by decide +kernel, by decide +kernel, by decide +kernel⟩
theorem mk_X6_60 : ML RX6 60 yX6_readCulprit 1 := ⟨mtb 387 (by decide +kernel) (by decide +kernel), mtb 2 (by decide +kernel) (by decide +kernel), by decide +kernel, by decide +kernel, by decide +kernel⟩
theorem mk_X6_63 : ML RX6 63 yX6_readWalk 1 := ⟨mtb 391 (by decide +kernel) (by decide +kernel), mtb 2 (by decide +kernel) (by decide +kernel), by decide +kernel, by decide +kernel, by decide +kernel⟩
theorem mk_X6_66 : ML RX6 66 yX6_readNight 1 := ⟨mtb 395 (by decide +kernel) (by decide +kernel), mtb 2 (by decide +kernel) (by decide +kernel), by decide +kernel, by decide +kernel, by decide +kernel⟩
theorem mk_X6_69 : ML RX6 69 yX6_failsAt 1 := ⟨mtb 361 (by decide +kernel) (by decide +kernel), mtb 2 (by decide +kernel) (by decide +kernel), by decide +kernel, by decide +kernel, by decide +kernel⟩
theorem mk_X6_79 : ML RX6 79 yX6_readNumber 2 := ⟨mtb 365 (by decide +kernel) (by decide +kernel), mtb 2 (by decide +kernel) (by decide +kernel), by decide +kernel, by decide +kernel, by decide +kernel⟩
theorem mk_X6_113 : ML RX6 113 yX6_isDigit 1 := ⟨mtb 369 (by decide +kernel) (by decide +kernel), mtb 2 (by decide +kernel) (by decide +kernel), by decide +kernel, by decide +kernel, by decide +kernel⟩
theorem mk_X7_43 : ML RX7 43 yJ7_fill_53178 2 := ⟨mtb 406 (by decide +kernel) (by decide +kernel), mtb 13 (by decide +kernel) (by decide +kernel), by decide +kernel, by decide +kernel, by decide +kernel⟩
theorem mk_X7_52 : ML RX7 52 yX7_isSolved 1 := ⟨mtb 446 (by decide +kernel) (by decide +kernel), mtb 4 (by decide +kernel) (by decide +kernel), by decide +kernel, by decide +kernel, by decide +kernel⟩
theorem mk_X7_62 : ML RX7 62 yX2_fullLoss 2 := ⟨mtb 478 (by decide +kernel) (by decide +kernel), mtb 3 (by decide +kernel) (by decide +kernel), by decide +kernel, by decide +kernel, by decide +kernel⟩
theorem mk_L_13 : ML RL 13 yX8_type 1 := ⟨mtb 328 (by decide +kernel) (by decide +kernel), mtb 1 (by decide +kernel) (by decide +kernel), by decide +kernel, by decide +kernel, by decide +kernel⟩
theorem mk_L_17 : ML RL 17 yX9_type 1 := ⟨mtb 791 (by decide +kernel) (by decide +kernel), mtb 10 (by decide +kernel) (by decide +kernel), by decide +kernel, by decide +kernel, by decide +kernel⟩
theorem mk_L_18 : ML RL 18 yX8_clear 0 := ⟨mtb 336 (by decide +kernel) (by decide +kernel), mtb 1 (by decide +kernel) (by decide +kernel), by decide +kernel, by decide +kernel, by decide +kernel⟩
theorem mk_L_22 : ML RL 22 yX9_clear 0 := ⟨mtb 798 (by decide +kernel) (by decide +kernel), mtb 10 (by decide +kernel) (by decide +kernel), by decide +kernel, by decide +kernel, by decide +kernel⟩
theorem mk_L_23 : ML RL 23 yX8_house 0 := ⟨mtb 340 (by decide +kernel) (by decide +kernel), mtb 1 (by decide +kernel) (by decide +kernel), by decide +kernel, by decide +kernel, by decide +kernel⟩
theorem mk_L_26 : ML RL 26 yX9_house 0 := ⟨mtb 802 (by decide +kernel) (by decide +kernel), mtb 10 (by decide +kernel) (by decide +kernel), by decide +kernel, by decide +kernel, by decide +kernel⟩
theorem mk_L_27 : ML RL 27 yX8_room 2 := ⟨mtb 413 (by decide +kernel) (by decide +kernel), mtb 1 (by decide +kernel) (by decide +kernel), by decide +kernel, by decide +kernel, by decide +kernel⟩
theorem mk_L_31 : ML RL 31 yX9_room 2 := ⟨mtb 840 (by decide +kernel) (by decide +kernel), mtb 10 (by decide +kernel) (by decide +kernel), by decide +kernel, by decide +kernel, by decide +kernel⟩
theorem mk_L_32 : ML RL 32 yX8_doing 2 := ⟨mtb 426 (by decide +kernel) (by decide +kernel), mtb 1 (by decide +kernel) (by decide +kernel), by decide +kernel, by decide +kernel, by decide +kernel⟩
theorem mk_L_35 : ML RL 35 yX9_doing 2 := ⟨mtb 853 (by decide +kernel) (by decide +kernel), mtb 10 (by decide +kernel) (by decide +kernel), by decide +kernel, by decide +kernel, by decide +kernel⟩
theorem mk_L_36 : ML RL 36 yX8_suspect 1 := ⟨mtb 434 (by decide +kernel) (by decide +kernel), mtb 1 (by decide +kernel) (by decide +kernel), by decide +kernel, by decide +kernel, by decide +kernel⟩
theorem mk_L_39 : ML RL 39 yX9_suspect 1 := ⟨mtb 861 (by decide +kernel) (by decide +kernel), mtb 10 (by decide +kernel) (by decide +kernel), by decide +kernel, by decide +kernel, by decide +kernel⟩
theorem mk_L_40 : ML RL 40 yX8_now 1 := ⟨mtb 438 (by decide +kernel) (by decide +kernel), mtb 1 (by decide +kernel) (by decide +kernel), by decide +kernel, by decide +kernel, by decide +kernel⟩
theorem mk_L_43 : ML RL 43 yX9_now 1 := ⟨mtb 865 (by decide +kernel) (by decide +kernel), mtb 10 (by decide +kernel) (by decide +kernel), by decide +kernel, by decide +kernel, by decide +kernel⟩
theorem mk_L_44 : ML RL 44 yX8_goes 1 := ⟨mtb 450 (by decide +kernel) (by decide +kernel), mtb 1 (by decide +kernel) (by decide +kernel), by decide +kernel, by decide +kernel, by decide +kernel⟩
theorem mk_L_47 : ML RL 47 yX9_goes 1 := ⟨mtb 877 (by decide +kernel) (by decide +kernel), mtb 10 (by decide +kernel) (by decide +kernel), by decide +kernel, by decide +kernel, by decide +kernel⟩
theorem mk_L_48 : ML RL 48 yX8_does 1 := ⟨mtb 470 (by decide +kernel) (by decide +kernel), mtb 1 (by decide +kernel) (by decide +kernel), by decide +kernel, by decide +kernel, by decide +kernel⟩
theorem mk_L_51 : ML RL 51 yX9_does 1 := ⟨mtb 893 (by decide +kernel) (by decide +kernel), mtb 10 (by decide +kernel) (by decide +kernel), by decide +kernel, by decide +kernel, by decide +kernel⟩
theorem mk_L_52 : ML RL 52 yX8_asks 1 := ⟨mtb 485 (by decide +kernel) (by decide +kernel), mtb 1 (by decide +kernel) (by decide +kernel), by decide +kernel, by decide +kernel, by decide +kernel⟩
theorem mk_L_55 : ML RL 55 yX9_asks 1 := ⟨mtb 901 (by decide +kernel) (by decide +kernel), mtb 10 (by decide +kernel) (by decide +kernel), by decide +kernel, by decide +kernel, by decide +kernel⟩
theorem mk_L_56 : ML RL 56 yX8_undo 0 := ⟨mtb 489 (by decide +kernel) (by decide +kernel), mtb 1 (by decide +kernel) (by decide +kernel), by decide +kernel, by decide +kernel, by decide +kernel⟩
theorem mk_L_59 : ML RL 59 yX9_undo 0 := ⟨mtb 905 (by decide +kernel) (by decide +kernel), mtb 10 (by decide +kernel) (by decide +kernel), by decide +kernel, by decide +kernel, by decide +kernel⟩
theorem mk_L_60 : ML RL 60 yX8_soonest 2 := ⟨mtb 497 (by decide +kernel) (by decide +kernel), mtb 1 (by decide +kernel) (by decide +kernel), by decide +kernel, by decide +kernel, by decide +kernel⟩
theorem mk_L_63 : ML RL 63 yX9_soonest 2 := ⟨mtb 909 (by decide +kernel) (by decide +kernel), mtb 10 (by decide +kernel) (by decide +kernel), by decide +kernel, by decide +kernel, by decide +kernel⟩
theorem mk_L_64 : ML RL 64 yX8_loved 0 := ⟨mtb 549 (by decide +kernel) (by decide +kernel), mtb 1 (by decide +kernel) (by decide +kernel), by decide +kernel, by decide +kernel, by decide +kernel⟩
theorem mk_L_67 : ML RL 67 yX9_loved 0 := ⟨mtb 926 (by decide +kernel) (by decide +kernel), mtb 10 (by decide +kernel) (by decide +kernel), by decide +kernel, by decide +kernel, by decide +kernel⟩
theorem mk_L_68 : ML RL 68 yX8_round 1 := ⟨mtb 561 (by decide +kernel) (by decide +kernel), mtb 1 (by decide +kernel) (by decide +kernel), by decide +kernel, by decide +kernel, by decide +kernel⟩
theorem mk_L_71 : ML RL 71 yX9_round 1 := ⟨mtb 930 (by decide +kernel) (by decide +kernel), mtb 10 (by decide +kernel) (by decide +kernel), by decide +kernel, by decide +kernel, by decide +kernel⟩
theorem mk_L_72 : ML RL 72 yX8_country 0 := ⟨mtb 579 (by decide +kernel) (by decide +kernel), mtb 1 (by decide +kernel) (by decide +kernel), by decide +kernel, by decide +kernel, by decide +kernel⟩
theorem mk_L_75 : ML RL 75 yX9_country 0 := ⟨mtb 942 (by decide +kernel) (by decide +kernel), mtb 10 (by decide +kernel) (by decide +kernel), by decide +kernel, by decide +kernel, by decide +kernel⟩
theorem mk_L_76 : ML RL 76 yX8_next 0 := ⟨mtb 593 (by decide +kernel) (by decide +kernel), mtb 1 (by decide +kernel) (by decide +kernel), by decide +kernel, by decide +kernel, by decide +kernel⟩
theorem mk_L_79 : ML RL 79 yX9_next 0 := ⟨mtb 949 (by decide +kernel) (by decide +kernel), mtb 10 (by decide +kernel) (by decide +kernel), by decide +kernel, by decide +kernel, by decide +kernel⟩
theorem mk_L_80 : ML RL 80 yX8_questions 0 := ⟨mtb 606 (by decide +kernel) (by decide +kernel), mtb 1 (by decide +kernel) (by decide +kernel), by decide +kernel, by decide +kernel, by decide +kernel⟩
theorem mk_L_83 : ML RL 83 yX9_questions 0 := ⟨mtb 957 (by decide +kernel) (by decide +kernel), mtb 10 (by decide +kernel) (by decide +kernel), by decide +kernel, by decide +kernel, by decide +kernel⟩
theorem mk_L_84 : ML RL 84 yX8_felt 2 := ⟨mtb 619 (by decide +kernel) (by decide +kernel), mtb 1 (by decide +kernel) (by decide +kernel), by decide +kernel, by decide +kernel, by decide +kernel⟩
theorem mk_L_87 : ML RL 87 yX9_felt 2 := ⟨mtb 961 (by decide +kernel) (by decide +kernel), mtb 10 (by decide +kernel) (by decide +kernel), by decide +kernel, by decide +kernel, by decide +kernel⟩
theorem mk_L_88 : ML RL 88 yX8_forget 0 := ⟨mtb 627 (by decide +kernel) (by decide +kernel), mtb 1 (by decide +kernel) (by decide +kernel), by decide +kernel, by decide +kernel, by decide +kernel⟩
theorem mk_L_91 : ML RL 91 yX9_forget 0 := ⟨mtb 965 (by decide +kernel) (by decide +kernel), mtb 10 (by decide +kernel) (by decide +kernel), by decide +kernel, by decide +kernel, by decide +kernel⟩
theorem mk_L_92 : ML RL 92 yX8_tempers 0 := ⟨mtb 631 (by decide +kernel) (by decide +kernel), mtb 1 (by decide +kernel) (by decide +kernel), by decide +kernel, by decide +kernel, by decide +kernel⟩
theorem mk_L_95 : ML RL 95 yX9_tempers 0 := ⟨mtb 969 (by decide +kernel) (by decide +kernel), mtb 10 (by decide +kernel) (by decide +kernel), by decide +kernel, by decide +kernel, by decide +kernel⟩
theorem mk_L_96 : ML RL 96 yX8_which 2 := ⟨mtb 639 (by decide +kernel) (by decide +kernel), mtb 1 (by decide +kernel) (by decide +kernel), by decide +kernel, by decide +kernel, by decide +kernel⟩
theorem mk_L_99 : ML RL 99 yX9_which 2 := ⟨mtb 973 (by decide +kernel) (by decide +kernel), mtb 10 (by decide +kernel) (by decide +kernel), by decide +kernel, by decide +kernel, by decide +kernel⟩
theorem mk_L_100 : ML RL 100 yX8_odds 5 := ⟨mtb 644 (by decide +kernel) (by decide +kernel), mtb 1 (by decide +kernel) (by decide +kernel), by decide +kernel, by decide +kernel, by decide +kernel⟩
theorem mk_L_104 : ML RL 104 yX9_odds 5 := ⟨mtb 977 (by decide +kernel) (by decide +kernel), mtb 10 (by decide +kernel) (by decide +kernel), by decide +kernel, by decide +kernel, by decide +kernel⟩
theorem mk_L_105 : ML RL 105 yX8_rate 2 := ⟨mtb 656 (by decide +kernel) (by decide +kernel), mtb 1 (by decide +kernel) (by decide +kernel), by decide +kernel, by decide +kernel, by decide +kernel⟩
theorem mk_L_108 : ML RL 108 yX9_rate 2 := ⟨mtb 987 (by decide +kernel) (by decide +kernel), mtb 10 (by decide +kernel) (by decide +kernel), by decide +kernel, by decide +kernel, by decide +kernel⟩
theorem mk_L_109 : ML RL 109 yX8_keep 1 := ⟨mtb 668 (by decide +kernel) (by decide +kernel), mtb 1 (by decide +kernel) (by decide +kernel), by decide +kernel, by decide +kernel, by decide +kernel⟩
theorem mk_L_112 : ML RL 112 yX9_keep 1 := ⟨mtb 996 (by decide +kernel) (by decide +kernel), mtb 10 (by decide +kernel) (by decide +kernel), by decide +kernel, by decide +kernel, by decide +kernel⟩
theorem mk_L_113 : ML RL 113 yX8_back 1 := ⟨mtb 673 (by decide +kernel) (by decide +kernel), mtb 1 (by decide +kernel) (by decide +kernel), by decide +kernel, by decide +kernel, by decide +kernel⟩
theorem mk_L_116 : ML RL 116 yX9_back 1 := ⟨mtb 1000 (by decide +kernel) (by decide +kernel), mtb 10 (by decide +kernel) (by decide +kernel), by decide +kernel, by decide +kernel, by decide +kernel⟩
theorem mk_L_117 : ML RL 117 yX8_count 1 := ⟨mtb 677 (by decide +kernel) (by decide +kernel), mtb 1 (by decide +kernel) (by decide +kernel), by decide +kernel, by decide +kernel, by decide +kernel⟩
theorem mk_L_120 : ML RL 120 yX9_count 1 := ⟨mtb 1004 (by decide +kernel) (by decide +kernel), mtb 10 (by decide +kernel) (by decide +kernel), by decide +kernel, by decide +kernel, by decide +kernel⟩
theorem mk_L_121 : ML RL 121 yX8_trace 0 := ⟨mtb 681 (by decide +kernel) (by decide +kernel), mtb 1 (by decide +kernel) (by decide +kernel), by decide +kernel, by decide +kernel, by decide +kernel⟩
theorem mk_L_125 : ML RL 125 yX9_trace 0 := ⟨mtb 1008 (by decide +kernel) (by decide +kernel), mtb 10 (by decide +kernel) (by decide +kernel), by decide +kernel, by decide +kernel, by decide +kernel⟩
theorem mk_X9_68 : ML RX9 68 yX9_begins 0 := ⟨mtb 691 (by decide +kernel) (by decide +kernel), mtb 10 (by decide +kernel) (by decide +kernel), by decide +kernel, by decide +kernel, by decide +kernel⟩
theorem mk_X9_71 : ML RX9 71 yX9_settles 0 := ⟨mtb 695 (by decide +kernel) (by decide +kernel), mtb 10 (by decide +kernel) (by decide +kernel), by decide +kernel, by decide +kernel, by decide +kernel⟩
theorem mk_X9_78 : ML RX9 78 yX9_in 3 := ⟨mtb 795 (by decide +kernel) (by decide +kernel), mtb 10 (by decide +kernel) (by decide +kernel), by decide +kernel, by decide +kernel, by decide +kernel⟩
theorem mk_X9_88 : ML RX9 88 yX9_letterAt 1 := ⟨mtb 810 (by decide +kernel) (by decide +kernel), mtb 10 (by decide +kernel) (by decide +kernel), by decide +kernel, by decide +kernel, by decide +kernel⟩
theorem mk_X9_101 : ML RX9 101 yX9_isLetter 1 := ⟨mtb 814 (by decide +kernel) (by decide +kernel), mtb 10 (by decide +kernel) (by decide +kernel), by decide +kernel, by decide +kernel, by decide +kernel⟩
theorem mk_X9_108 : ML RX9 108 yX9_isWell 0 := ⟨mtb 817 (by decide +kernel) (by decide +kernel), mtb 10 (by decide +kernel) (by decide +kernel), by decide +kernel, by decide +kernel, by decide +kernel⟩
theorem mk_X9_112 : ML RX9 112 yX9_advances 0 := ⟨mtb 806 (by decide +kernel) (by decide +kernel), mtb 10 (by decide +kernel) (by decide +kernel), by decide +kernel, by decide +kernel, by decide +kernel⟩
theorem mk_X9_115 : ML RX9 115 yX9_takes 1 := ⟨mtb 828 (by decide +kernel) (by decide +kernel), mtb 10 (by decide +kernel) (by decide +kernel), by decide +kernel, by decide +kernel, by decide +kernel⟩
theorem mk_X9_122 : ML RX9 122 yX9_bitOf 1 := ⟨mtb 825 (by decide +kernel) (by decide +kernel), mtb 10 (by decide +kernel) (by decide +kernel), by decide +kernel, by decide +kernel, by decide +kernel⟩
theorem mk_X9_125 : ML RX9 125 yX9_number 2 := ⟨mtb 836 (by decide +kernel) (by decide +kernel), mtb 10 (by decide +kernel) (by decide +kernel), by decide +kernel, by decide +kernel, by decide +kernel⟩
theorem mk_X9_129 : ML RX9 129 yX9_mayBegin 0 := ⟨mtb 821 (by decide +kernel) (by decide +kernel), mtb 10 (by decide +kernel) (by decide +kernel), by decide +kernel, by decide +kernel, by decide +kernel⟩
theorem mk_X9_132 : ML RX9 132 yX9_readsItem 1 := ⟨mtb 832 (by decide +kernel) (by decide +kernel), mtb 10 (by decide +kernel) (by decide +kernel), by decide +kernel, by decide +kernel, by decide +kernel⟩
theorem mk_X9_142 : ML RX9 142 yX9_isRoom 1 := ⟨mtb 844 (by decide +kernel) (by decide +kernel), mtb 10 (by decide +kernel) (by decide +kernel), by decide +kernel, by decide +kernel, by decide +kernel⟩
theorem mk_X9_146 : ML RX9 146 yX9_isSolved 1 := ⟨mtb 849 (by decide +kernel) (by decide +kernel), mtb 10 (by decide +kernel) (by decide +kernel), by decide +kernel, by decide +kernel, by decide +kernel⟩
theorem mk_X9_149 : ML RX9 149 yX9_isDoing 1 := ⟨mtb 857 (by decide +kernel) (by decide +kernel), mtb 10 (by decide +kernel) (by decide +kernel), by decide +kernel, by decide +kernel, by decide +kernel⟩
theorem mk_X9_152 : ML RX9 152 yX9_earned 0 := ⟨mtb 869 (by decide +kernel) (by decide +kernel), mtb 10 (by decide +kernel) (by decide +kernel), by decide +kernel, by decide +kernel, by decide +kernel⟩
theorem mk_X9_156 : ML RX9 156 yX9_left 0 := ⟨mtb 873 (by decide +kernel) (by decide +kernel), mtb 10 (by decide +kernel) (by decide +kernel), by decide +kernel, by decide +kernel, by decide +kernel⟩
theorem mk_X9_159 : ML RX9 159 yX9_walk 2 := ⟨mtb 881 (by decide +kernel) (by decide +kernel), mtb 10 (by decide +kernel) (by decide +kernel), by decide +kernel, by decide +kernel, by decide +kernel⟩
theorem mk_X9_162 : ML RX9 162 yX9_mayLast 1 := ⟨mtb 885 (by decide +kernel) (by decide +kernel), mtb 10 (by decide +kernel) (by decide +kernel), by decide +kernel, by decide +kernel, by decide +kernel⟩
theorem mk_X9_165 : ML RX9 165 yX9_notes 0 := ⟨mtb 889 (by decide +kernel) (by decide +kernel), mtb 10 (by decide +kernel) (by decide +kernel), by decide +kernel, by decide +kernel, by decide +kernel⟩
theorem mk_X9_168 : ML RX9 168 yX9_hurt 3 := ⟨mtb 897 (by decide +kernel) (by decide +kernel), mtb 10 (by decide +kernel) (by decide +kernel), by decide +kernel, by decide +kernel, by decide +kernel⟩
theorem mk_X9_173 : ML RX9 173 yX9_soonBy 4 := ⟨mtb 922 (by decide +kernel) (by decide +kernel), mtb 10 (by decide +kernel) (by decide +kernel), by decide +kernel, by decide +kernel, by decide +kernel⟩
theorem mk_X9_177 : ML RX9 177 yX9_measures 1 := ⟨mtb 917 (by decide +kernel) (by decide +kernel), mtb 10 (by decide +kernel) (by decide +kernel), by decide +kernel, by decide +kernel, by decide +kernel⟩
theorem mk_X9_180 : ML RX9 180 yX9_soonAt 1 := ⟨mtb 913 (by decide +kernel) (by decide +kernel), mtb 10 (by decide +kernel) (by decide +kernel), by decide +kernel, by decide +kernel, by decide +kernel⟩
theorem mk_X9_183 : ML RX9 183 yX9_gathers 0 := ⟨mtb 934 (by decide +kernel) (by decide +kernel), mtb 10 (by decide +kernel) (by decide +kernel), by decide +kernel, by decide +kernel, by decide +kernel⟩
theorem mk_X9_186 : ML RX9 186 yX9_rowOf 1 := ⟨mtb 938 (by decide +kernel) (by decide +kernel), mtb 10 (by decide +kernel) (by decide +kernel), by decide +kernel, by decide +kernel, by decide +kernel⟩
theorem mk_X9_189 : ML RX9 189 yX9_ones 1 := ⟨mtb 946 (by decide +kernel) (by decide +kernel), mtb 10 (by decide +kernel) (by decide +kernel), by decide +kernel, by decide +kernel, by decide +kernel⟩
theorem mk_X9_192 : ML RX9 192 yX9_having 2 := ⟨mtb 953 (by decide +kernel) (by decide +kernel), mtb 10 (by decide +kernel) (by decide +kernel), by decide +kernel, by decide +kernel, by decide +kernel⟩
theorem mk_X9_195 : ML RX9 195 yX9_power 2 := ⟨mtb 981 (by decide +kernel) (by decide +kernel), mtb 10 (by decide +kernel) (by decide +kernel), by decide +kernel, by decide +kernel, by decide +kernel⟩
theorem mk_X9_198 : ML RX9 198 yX9_gcd 2 := ⟨mtb 984 (by decide +kernel) (by decide +kernel), mtb 10 (by decide +kernel) (by decide +kernel), by decide +kernel, by decide +kernel, by decide +kernel⟩
theorem ck_J6_bitCount_0f7a4 : Cond.code yJ6_bitCount_0f7a4 cJ6_bitCount_0f7a4 1 (some .int) ∈ tw := mtb 585 (by decide +kernel) (by decide +kernel)
theorem sk_J6_bitCount_0f7a4 : Cond.static yJ6_bitCount_0f7a4 ∈ tw := mtb 584 (by decide +kernel) (by decide +kernel)
theorem ck_J7_fill_53178 : Cond.code yJ7_fill_53178 cJ7_fill_53178 4 none ∈ tw := mtb 408 (by decide +kernel) (by decide +kernel)
theorem sk_J7_fill_53178 : Cond.static yJ7_fill_53178 ∈ tw := mtb 407 (by decide +kernel) (by decide +kernel)
theorem ck_X0_extend : Cond.code yX0_extend cX0_extend 10 none ∈ tw := mtb 573 (by decide +kernel) (by decide +kernel)
theorem mv_X0_extend : MV 0 yX0_extend := ⟨mtb 572 (by decide +kernel) (by decide +kernel), mpr 15 (by decide +kernel) (by decide +kernel), TX0, 7, rfl⟩
theorem ck_X0_plan : Cond.code yX0_plan cX0_plan 4 none ∈ tw := mtb 568 (by decide +kernel) (by decide +kernel)
theorem mv_X0_plan : MV 0 yX0_plan := ⟨mtb 566 (by decide +kernel) (by decide +kernel), mtb 567 (by decide +kernel) (by decide +kernel), TX0, 7, rfl⟩
theorem ck_X0_weigh : Cond.code yX0_weigh cX0_weigh 4 none ∈ tw := mtb 578 (by decide +kernel) (by decide +kernel)
theorem mv_X0_weigh : MV 0 yX0_weigh := ⟨mtb 577 (by decide +kernel) (by decide +kernel), mpr 16 (by decide +kernel) (by decide +kernel), TX0, 7, rfl⟩
theorem ck_X1_cheapestBut : Cond.code yX1_cheapestBut cX1_cheapestBut 6 (some .int) ∈ tw := mtb 592 (by decide +kernel) (by decide +kernel)
theorem mv_X1_cheapestBut : MV 1 yX1_cheapestBut := ⟨mtb 590 (by decide +kernel) (by decide +kernel), mtb 591 (by decide +kernel) (by decide +kernel), TX1, 7, rfl⟩
theorem ck_X1_costNow : Cond.code yX1_costNow cX1_costNow 1 (some .int) ∈ tw := mtb 531 (by decide +kernel) (by decide +kernel)
theorem mv_X1_costNow : MV 1 yX1_costNow := ⟨mtb 530 (by decide +kernel) (by decide +kernel), mpr 13 (by decide +kernel) (by decide +kernel), TX1, 7, rfl⟩
theorem ck_X1_costThrough : Cond.code yX1_costThrough cX1_costThrough 6 (some .int) ∈ tw := mtb 522 (by decide +kernel) (by decide +kernel)
theorem mv_X1_costThrough : MV 1 yX1_costThrough := ⟨mtb 521 (by decide +kernel) (by decide +kernel), mpr 12 (by decide +kernel) (by decide +kernel), TX1, 7, rfl⟩
theorem ck_X1_doingAt : Cond.code yX1_doingAt cX1_doingAt 6 (some .int) ∈ tw := mtb 543 (by decide +kernel) (by decide +kernel)
theorem mv_X1_doingAt : MV 1 yX1_doingAt := ⟨mtb 541 (by decide +kernel) (by decide +kernel), mtb 542 (by decide +kernel) (by decide +kernel), TX1, 7, rfl⟩
theorem ck_X1_doingsNeeded : Cond.code yX1_doingsNeeded cX1_doingsNeeded 1 (some .int) ∈ tw := mtb 539 (by decide +kernel) (by decide +kernel)
theorem mv_X1_doingsNeeded : MV 1 yX1_doingsNeeded := ⟨mtb 537 (by decide +kernel) (by decide +kernel), mtb 538 (by decide +kernel) (by decide +kernel), TX1, 7, rfl⟩
theorem ck_X1_firstOfBest : Cond.code yX1_firstOfBest cX1_firstOfBest 4 (some .int) ∈ tw := mtb 548 (by decide +kernel) (by decide +kernel)
theorem mv_X1_firstOfBest : MV 1 yX1_firstOfBest := ⟨mtb 547 (by decide +kernel) (by decide +kernel), mpr 14 (by decide +kernel) (by decide +kernel), TX1, 7, rfl⟩
theorem ck_X1_indexOf : Cond.code yX1_indexOf cX1_indexOf 2 (some .int) ∈ tw := mtb 518 (by decide +kernel) (by decide +kernel)
theorem sk_X1_indexOf : Cond.static yX1_indexOf ∈ tw := mtb 517 (by decide +kernel) (by decide +kernel)
theorem ck_X1_isNever : Cond.code yX1_isNever cX1_isNever 1 (some .boolean) ∈ tw := mtb 527 (by decide +kernel) (by decide +kernel)
theorem mv_X1_isNever : MV 1 yX1_isNever := ⟨mtb 525 (by decide +kernel) (by decide +kernel), mtb 526 (by decide +kernel) (by decide +kernel), TX1, 7, rfl⟩
theorem ck_X1_minutesNeeded : Cond.code yX1_minutesNeeded cX1_minutesNeeded 1 (some .int) ∈ tw := mtb 535 (by decide +kernel) (by decide +kernel)
theorem mv_X1_minutesNeeded : MV 1 yX1_minutesNeeded := ⟨mtb 533 (by decide +kernel) (by decide +kernel), mtb 534 (by decide +kernel) (by decide +kernel), TX1, 7, rfl⟩
theorem ck_X1_solve : Cond.code yX1_solve cX1_solve 5 none ∈ tw := mtb 504 (by decide +kernel) (by decide +kernel)
theorem mv_X1_solve : MV 1 yX1_solve := ⟨mtb 502 (by decide +kernel) (by decide +kernel), mtb 503 (by decide +kernel) (by decide +kernel), TX1, 7, rfl⟩
theorem ck_X1_solveAll : Cond.code yX1_solveAll cX1_solveAll 4 none ∈ tw := mtb 556 (by decide +kernel) (by decide +kernel)
theorem mv_X1_solveAll : MV 1 yX1_solveAll := ⟨mtb 554 (by decide +kernel) (by decide +kernel), mtb 555 (by decide +kernel) (by decide +kernel), TX1, 7, rfl⟩
theorem ck_X1_solveLevel : Cond.code yX1_solveLevel cX1_solveLevel 5 none ∈ tw := mtb 515 (by decide +kernel) (by decide +kernel)
theorem mv_X1_solveLevel : MV 1 yX1_solveLevel := ⟨mtb 514 (by decide +kernel) (by decide +kernel), mpr 11 (by decide +kernel) (by decide +kernel), TX1, 7, rfl⟩
theorem ck_X2_fullLoss : Cond.code yX2_fullLoss cX2_fullLoss 3 (some .int) ∈ tw := mtb 481 (by decide +kernel) (by decide +kernel)
theorem mv_X2_fullLoss : MV 2 yX2_fullLoss := ⟨mtb 479 (by decide +kernel) (by decide +kernel), mtb 480 (by decide +kernel) (by decide +kernel), TX2, 12, rfl⟩
theorem ck_X2_hasDoing : Cond.code yX2_hasDoing cX2_hasDoing 2 (some .boolean) ∈ tw := mtb 433 (by decide +kernel) (by decide +kernel)
theorem mv_X2_hasDoing : MV 2 yX2_hasDoing := ⟨mtb 431 (by decide +kernel) (by decide +kernel), mtb 432 (by decide +kernel) (by decide +kernel), TX2, 12, rfl⟩
theorem ck_X2_hasRoom : Cond.code yX2_hasRoom cX2_hasRoom 2 (some .boolean) ∈ tw := mtb 420 (by decide +kernel) (by decide +kernel)
theorem mv_X2_hasRoom : MV 2 yX2_hasRoom := ⟨mtb 418 (by decide +kernel) (by decide +kernel), mtb 419 (by decide +kernel) (by decide +kernel), TX2, 12, rfl⟩
theorem ck_X2_tellNothing : Cond.code yX2_tellNothing cX2_tellNothing 1 none ∈ tw := mtb 63 (by decide +kernel) (by decide +kernel)
theorem mv_X2_tellNothing : MV 2 yX2_tellNothing := ⟨mtb 61 (by decide +kernel) (by decide +kernel), mtb 62 (by decide +kernel) (by decide +kernel), TX2, 12, rfl⟩
theorem ck_X2_walkBetween : Cond.code yX2_walkBetween cX2_walkBetween 3 (some .int) ∈ tw := mtb 457 (by decide +kernel) (by decide +kernel)
theorem mv_X2_walkBetween : MV 2 yX2_walkBetween := ⟨mtb 455 (by decide +kernel) (by decide +kernel), mtb 456 (by decide +kernel) (by decide +kernel), TX2, 12, rfl⟩
theorem ck_X3_bestTrait : Cond.code yX3_bestTrait cX3_bestTrait 9 (some .int) ∈ tw := mtb 599 (by decide +kernel) (by decide +kernel)
theorem sk_X3_bestTrait : Cond.static yX3_bestTrait ∈ tw := mtb 598 (by decide +kernel) (by decide +kernel)
theorem ck_X3_leftOf : Cond.code yX3_leftOf cX3_leftOf 5 (some .int) ∈ tw := mtb 449 (by decide +kernel) (by decide +kernel)
theorem sk_X3_leftOf : Cond.static yX3_leftOf ∈ tw := mtb 448 (by decide +kernel) (by decide +kernel)
theorem ck_X3_mostNeeded : Cond.code yX3_mostNeeded cX3_mostNeeded 4 (some .int) ∈ tw := mtb 613 (by decide +kernel) (by decide +kernel)
theorem mv_X3_mostNeeded : MV 3 yX3_mostNeeded := ⟨mtb 611 (by decide +kernel) (by decide +kernel), mtb 612 (by decide +kernel) (by decide +kernel), TX3, 2, rfl⟩
theorem ck_X3_neededOf : Cond.code yX3_neededOf cX3_neededOf 6 (some .int) ∈ tw := mtb 617 (by decide +kernel) (by decide +kernel)
theorem mv_X3_neededOf : MV 3 yX3_neededOf := ⟨mtb 616 (by decide +kernel) (by decide +kernel), mpr 17 (by decide +kernel) (by decide +kernel), TX3, 2, rfl⟩
theorem ck_X3_withTrait : Cond.code yX3_withTrait cX3_withTrait 4 (some .int) ∈ tw := mtb 604 (by decide +kernel) (by decide +kernel)
theorem sk_X3_withTrait : Cond.static yX3_withTrait ∈ tw := mtb 603 (by decide +kernel) (by decide +kernel)
theorem ck_X4_add : Cond.code yX4_add cX4_add 3 none ∈ tw := mtb 626 (by decide +kernel) (by decide +kernel)
theorem mv_X4_add : MV 4 yX4_add := ⟨mtb 624 (by decide +kernel) (by decide +kernel), mtb 625 (by decide +kernel) (by decide +kernel), TX4, 3, rfl⟩
theorem ck_X4_agreesWith : Cond.code yX4_agreesWith cX4_agreesWith 4 (some .boolean) ∈ tw := mtb 638 (by decide +kernel) (by decide +kernel)
theorem mv_X4_agreesWith : MV 4 yX4_agreesWith := ⟨mtb 636 (by decide +kernel) (by decide +kernel), mtb 637 (by decide +kernel) (by decide +kernel), TX4, 3, rfl⟩
theorem ck_X5_lose : Cond.code yX5_lose cX5_lose 1 none ∈ tw := mtb 412 (by decide +kernel) (by decide +kernel)
theorem mv_X5_lose : MV 5 yX5_lose := ⟨mtb 410 (by decide +kernel) (by decide +kernel), mtb 411 (by decide +kernel) (by decide +kernel), TX5, 3, rfl⟩
theorem ck_X5_remember : Cond.code yX5_remember cX5_remember 2 none ∈ tw := mtb 464 (by decide +kernel) (by decide +kernel)
theorem mv_X5_remember : MV 5 yX5_remember := ⟨mtb 462 (by decide +kernel) (by decide +kernel), mtb 463 (by decide +kernel) (by decide +kernel), TX5, 3, rfl⟩
theorem ck_X5_restore : Cond.code yX5_restore cX5_restore 2 none ∈ tw := mtb 496 (by decide +kernel) (by decide +kernel)
theorem mv_X5_restore : MV 5 yX5_restore := ⟨mtb 494 (by decide +kernel) (by decide +kernel), mtb 495 (by decide +kernel) (by decide +kernel), TX5, 3, rfl⟩
theorem ck_X6_add : Cond.code yX6_add cX6_add 2 none ∈ tw := mtb 335 (by decide +kernel) (by decide +kernel)
theorem mv_X6_add : MV 6 yX6_add := ⟨mtb 333 (by decide +kernel) (by decide +kernel), mtb 334 (by decide +kernel) (by decide +kernel), TX6, 7, rfl⟩
theorem ck_X6_failsAt : Cond.code yX6_failsAt cX6_failsAt 2 (some .boolean) ∈ tw := mtb 364 (by decide +kernel) (by decide +kernel)
theorem mv_X6_failsAt : MV 6 yX6_failsAt := ⟨mtb 363 (by decide +kernel) (by decide +kernel), mpr 3 (by decide +kernel) (by decide +kernel), TX6, 7, rfl⟩
theorem ck_X6_isDigit : Cond.code yX6_isDigit cX6_isDigit 1 (some .boolean) ∈ tw := mtb 371 (by decide +kernel) (by decide +kernel)
theorem sk_X6_isDigit : Cond.static yX6_isDigit ∈ tw := mtb 370 (by decide +kernel) (by decide +kernel)
theorem ck_X6_readCulprit : Cond.code yX6_readCulprit cX6_readCulprit 2 (some .boolean) ∈ tw := mtb 390 (by decide +kernel) (by decide +kernel)
theorem mv_X6_readCulprit : MV 6 yX6_readCulprit := ⟨mtb 389 (by decide +kernel) (by decide +kernel), mpr 8 (by decide +kernel) (by decide +kernel), TX6, 7, rfl⟩
theorem ck_X6_readDoing : Cond.code yX6_readDoing cX6_readDoing 3 (some .boolean) ∈ tw := mtb 382 (by decide +kernel) (by decide +kernel)
theorem mv_X6_readDoing : MV 6 yX6_readDoing := ⟨mtb 381 (by decide +kernel) (by decide +kernel), mpr 6 (by decide +kernel) (by decide +kernel), TX6, 7, rfl⟩
theorem ck_X6_readEnd : Cond.code yX6_readEnd cX6_readEnd 1 (some .boolean) ∈ tw := mtb 378 (by decide +kernel) (by decide +kernel)
theorem mv_X6_readEnd : MV 6 yX6_readEnd := ⟨mtb 377 (by decide +kernel) (by decide +kernel), mpr 5 (by decide +kernel) (by decide +kernel), TX6, 7, rfl⟩
theorem ck_X6_readInto : Cond.code yX6_readInto cX6_readInto 4 (some .int) ∈ tw := mtb 347 (by decide +kernel) (by decide +kernel)
theorem mv_X6_readInto : MV 6 yX6_readInto := ⟨mtb 345 (by decide +kernel) (by decide +kernel), mtb 346 (by decide +kernel) (by decide +kernel), TX6, 7, rfl⟩
theorem ck_X6_readItem : Cond.code yX6_readItem cX6_readItem 2 (some .boolean) ∈ tw := mtb 356 (by decide +kernel) (by decide +kernel)
theorem mv_X6_readItem : MV 6 yX6_readItem := ⟨mtb 355 (by decide +kernel) (by decide +kernel), mpr 1 (by decide +kernel) (by decide +kernel), TX6, 7, rfl⟩
theorem ck_X6_readNight : Cond.code yX6_readNight cX6_readNight 2 (some .boolean) ∈ tw := mtb 398 (by decide +kernel) (by decide +kernel)
theorem mv_X6_readNight : MV 6 yX6_readNight := ⟨mtb 397 (by decide +kernel) (by decide +kernel), mpr 10 (by decide +kernel) (by decide +kernel), TX6, 7, rfl⟩
theorem ck_X6_readNumber : Cond.code yX6_readNumber cX6_readNumber 6 (some .int) ∈ tw := mtb 368 (by decide +kernel) (by decide +kernel)
theorem mv_X6_readNumber : MV 6 yX6_readNumber := ⟨mtb 367 (by decide +kernel) (by decide +kernel), mpr 4 (by decide +kernel) (by decide +kernel), TX6, 7, rfl⟩
theorem ck_X6_readRoom : Cond.code yX6_readRoom cX6_readRoom 3 (some .boolean) ∈ tw := mtb 360 (by decide +kernel) (by decide +kernel)
theorem mv_X6_readRoom : MV 6 yX6_readRoom := ⟨mtb 359 (by decide +kernel) (by decide +kernel), mpr 2 (by decide +kernel) (by decide +kernel), TX6, 7, rfl⟩
theorem ck_X6_readSuspect : Cond.code yX6_readSuspect cX6_readSuspect 3 (some .boolean) ∈ tw := mtb 386 (by decide +kernel) (by decide +kernel)
theorem mv_X6_readSuspect : MV 6 yX6_readSuspect := ⟨mtb 385 (by decide +kernel) (by decide +kernel), mpr 7 (by decide +kernel) (by decide +kernel), TX6, 7, rfl⟩
theorem ck_X6_readWalk : Cond.code yX6_readWalk cX6_readWalk 2 (some .boolean) ∈ tw := mtb 394 (by decide +kernel) (by decide +kernel)
theorem mv_X6_readWalk : MV 6 yX6_readWalk := ⟨mtb 393 (by decide +kernel) (by decide +kernel), mpr 9 (by decide +kernel) (by decide +kernel), TX6, 7, rfl⟩
theorem ck_X6_skipBlanks : Cond.code yX6_skipBlanks cX6_skipBlanks 2 none ∈ tw := mtb 352 (by decide +kernel) (by decide +kernel)
theorem mv_X6_skipBlanks : MV 6 yX6_skipBlanks := ⟨mtb 351 (by decide +kernel) (by decide +kernel), mpr 0 (by decide +kernel) (by decide +kernel), TX6, 7, rfl⟩
theorem ck_X7_beginIn : Cond.code yX7_beginIn cX7_beginIn 2 none ∈ tw := mtb 402 (by decide +kernel) (by decide +kernel)
theorem mv_X7_beginIn : MV 7 yX7_beginIn := ⟨mtb 400 (by decide +kernel) (by decide +kernel), mtb 401 (by decide +kernel) (by decide +kernel), TX7, 7, rfl⟩
theorem ck_X7_copyOf : Cond.code yX7_copyOf cX7_copyOf 2 none ∈ tw := mtb 468 (by decide +kernel) (by decide +kernel)
theorem mv_X7_copyOf : MV 7 yX7_copyOf := ⟨mtb 466 (by decide +kernel) (by decide +kernel), mtb 467 (by decide +kernel) (by decide +kernel), TX7, 7, rfl⟩
theorem ck_X7_earnedIn : Cond.code yX7_earnedIn cX7_earnedIn 4 (some .int) ∈ tw := mtb 445 (by decide +kernel) (by decide +kernel)
theorem mv_X7_earnedIn : MV 7 yX7_earnedIn := ⟨mtb 443 (by decide +kernel) (by decide +kernel), mtb 444 (by decide +kernel) (by decide +kernel), TX7, 7, rfl⟩
theorem ck_X7_isSolved : Cond.code yX7_isSolved cX7_isSolved 2 (some .boolean) ∈ tw := mtb 425 (by decide +kernel) (by decide +kernel)
theorem mv_X7_isSolved : MV 7 yX7_isSolved := ⟨mtb 423 (by decide +kernel) (by decide +kernel), mtb 424 (by decide +kernel) (by decide +kernel), TX7, 7, rfl⟩
theorem ck_X7_takeDoing : Cond.code yX7_takeDoing cX7_takeDoing 4 none ∈ tw := mtb 477 (by decide +kernel) (by decide +kernel)
theorem mv_X7_takeDoing : MV 7 yX7_takeDoing := ⟨mtb 475 (by decide +kernel) (by decide +kernel), mtb 476 (by decide +kernel) (by decide +kernel), TX7, 7, rfl⟩
theorem ck_X8_asks : Cond.code yX8_asks cX8_asks 3 (some .int) ∈ tw := mtb 488 (by decide +kernel) (by decide +kernel)
theorem mv_X8_asks : MV 8 yX8_asks := ⟨mtb 486 (by decide +kernel) (by decide +kernel), mtb 487 (by decide +kernel) (by decide +kernel), TX8, 13, rfl⟩
theorem ck_X8_back : Cond.code yX8_back cX8_back 2 (some .int) ∈ tw := mtb 676 (by decide +kernel) (by decide +kernel)
theorem mv_X8_back : MV 8 yX8_back := ⟨mtb 674 (by decide +kernel) (by decide +kernel), mtb 675 (by decide +kernel) (by decide +kernel), TX8, 13, rfl⟩
theorem ck_X8_clear : Cond.code yX8_clear cX8_clear 2 (some .int) ∈ tw := mtb 339 (by decide +kernel) (by decide +kernel)
theorem mv_X8_clear : MV 8 yX8_clear := ⟨mtb 337 (by decide +kernel) (by decide +kernel), mtb 338 (by decide +kernel) (by decide +kernel), TX8, 13, rfl⟩
theorem ck_X8_commonDivisor : Cond.code yX8_commonDivisor cX8_commonDivisor 6 (some .int) ∈ tw := mtb 655 (by decide +kernel) (by decide +kernel)
theorem sk_X8_commonDivisor : Cond.static yX8_commonDivisor ∈ tw := mtb 654 (by decide +kernel) (by decide +kernel)
theorem ck_X8_count : Cond.code yX8_count cX8_count 2 (some .int) ∈ tw := mtb 680 (by decide +kernel) (by decide +kernel)
theorem mv_X8_count : MV 8 yX8_count := ⟨mtb 678 (by decide +kernel) (by decide +kernel), mtb 679 (by decide +kernel) (by decide +kernel), TX8, 13, rfl⟩
theorem ck_X8_countChances : Cond.code yX8_countChances cX8_countChances 6 (some .int) ∈ tw := mtb 651 (by decide +kernel) (by decide +kernel)
theorem mv_X8_countChances : MV 8 yX8_countChances := ⟨mtb 650 (by decide +kernel) (by decide +kernel), mpr 18 (by decide +kernel) (by decide +kernel), TX8, 13, rfl⟩
theorem ck_X8_country : Cond.code yX8_country cX8_country 6 (some .int) ∈ tw := mtb 582 (by decide +kernel) (by decide +kernel)
theorem mv_X8_country : MV 8 yX8_country := ⟨mtb 580 (by decide +kernel) (by decide +kernel), mtb 581 (by decide +kernel) (by decide +kernel), TX8, 13, rfl⟩
theorem ck_X8_does : Cond.code yX8_does cX8_does 3 (some .int) ∈ tw := mtb 473 (by decide +kernel) (by decide +kernel)
theorem mv_X8_does : MV 8 yX8_does := ⟨mtb 471 (by decide +kernel) (by decide +kernel), mtb 472 (by decide +kernel) (by decide +kernel), TX8, 13, rfl⟩
theorem ck_X8_doing : Cond.code yX8_doing cX8_doing 3 (some .int) ∈ tw := mtb 429 (by decide +kernel) (by decide +kernel)
theorem mv_X8_doing : MV 8 yX8_doing := ⟨mtb 427 (by decide +kernel) (by decide +kernel), mtb 428 (by decide +kernel) (by decide +kernel), TX8, 13, rfl⟩
theorem ck_X8_felt : Cond.code yX8_felt cX8_felt 3 (some .int) ∈ tw := mtb 622 (by decide +kernel) (by decide +kernel)
theorem mv_X8_felt : MV 8 yX8_felt := ⟨mtb 620 (by decide +kernel) (by decide +kernel), mtb 621 (by decide +kernel) (by decide +kernel), TX8, 13, rfl⟩
theorem ck_X8_forget : Cond.code yX8_forget cX8_forget 2 (some .int) ∈ tw := mtb 630 (by decide +kernel) (by decide +kernel)
theorem mv_X8_forget : MV 8 yX8_forget := ⟨mtb 628 (by decide +kernel) (by decide +kernel), mtb 629 (by decide +kernel) (by decide +kernel), TX8, 13, rfl⟩
theorem ck_X8_goes : Cond.code yX8_goes cX8_goes 3 (some .int) ∈ tw := mtb 453 (by decide +kernel) (by decide +kernel)
theorem mv_X8_goes : MV 8 yX8_goes := ⟨mtb 451 (by decide +kernel) (by decide +kernel), mtb 452 (by decide +kernel) (by decide +kernel), TX8, 13, rfl⟩
theorem ck_X8_house : Cond.code yX8_house cX8_house 3 (some .int) ∈ tw := mtb 343 (by decide +kernel) (by decide +kernel)
theorem mv_X8_house : MV 8 yX8_house := ⟨mtb 341 (by decide +kernel) (by decide +kernel), mtb 342 (by decide +kernel) (by decide +kernel), TX8, 13, rfl⟩
theorem ck_X8_keep : Cond.code yX8_keep cX8_keep 2 (some .int) ∈ tw := mtb 671 (by decide +kernel) (by decide +kernel)
theorem mv_X8_keep : MV 8 yX8_keep := ⟨mtb 669 (by decide +kernel) (by decide +kernel), mtb 670 (by decide +kernel) (by decide +kernel), TX8, 13, rfl⟩
theorem ck_X8_lossOf : Cond.code yX8_lossOf cX8_lossOf 2 (some .int) ∈ tw := mtb 484 (by decide +kernel) (by decide +kernel)
theorem sk_X8_lossOf : Cond.static yX8_lossOf ∈ tw := mtb 483 (by decide +kernel) (by decide +kernel)
theorem ck_X8_loved : Cond.code yX8_loved cX8_loved 3 (some .int) ∈ tw := mtb 552 (by decide +kernel) (by decide +kernel)
theorem mv_X8_loved : MV 8 yX8_loved := ⟨mtb 550 (by decide +kernel) (by decide +kernel), mtb 551 (by decide +kernel) (by decide +kernel), TX8, 13, rfl⟩
theorem ck_X8_next : Cond.code yX8_next cX8_next 1 (some .int) ∈ tw := mtb 596 (by decide +kernel) (by decide +kernel)
theorem mv_X8_next : MV 8 yX8_next := ⟨mtb 594 (by decide +kernel) (by decide +kernel), mtb 595 (by decide +kernel) (by decide +kernel), TX8, 13, rfl⟩
theorem ck_X8_now : Cond.code yX8_now cX8_now 2 (some .int) ∈ tw := mtb 441 (by decide +kernel) (by decide +kernel)
theorem mv_X8_now : MV 8 yX8_now := ⟨mtb 439 (by decide +kernel) (by decide +kernel), mtb 440 (by decide +kernel) (by decide +kernel), TX8, 13, rfl⟩
theorem ck_X8_odds : Cond.code yX8_odds cX8_odds 9 (some .int) ∈ tw := mtb 647 (by decide +kernel) (by decide +kernel)
theorem mv_X8_odds : MV 8 yX8_odds := ⟨mtb 645 (by decide +kernel) (by decide +kernel), mtb 646 (by decide +kernel) (by decide +kernel), TX8, 13, rfl⟩
theorem ck_X8_questions : Cond.code yX8_questions cX8_questions 1 (some .int) ∈ tw := mtb 609 (by decide +kernel) (by decide +kernel)
theorem mv_X8_questions : MV 8 yX8_questions := ⟨mtb 607 (by decide +kernel) (by decide +kernel), mtb 608 (by decide +kernel) (by decide +kernel), TX8, 13, rfl⟩
theorem ck_X8_rate : Cond.code yX8_rate cX8_rate 3 (some .int) ∈ tw := mtb 659 (by decide +kernel) (by decide +kernel)
theorem mv_X8_rate : MV 8 yX8_rate := ⟨mtb 657 (by decide +kernel) (by decide +kernel), mtb 658 (by decide +kernel) (by decide +kernel), TX8, 13, rfl⟩
theorem ck_X8_rateAs : Cond.code yX8_rateAs cX8_rateAs 4 (some .int) ∈ tw := mtb 663 (by decide +kernel) (by decide +kernel)
theorem mv_X8_rateAs : MV 8 yX8_rateAs := ⟨mtb 662 (by decide +kernel) (by decide +kernel), mpr 19 (by decide +kernel) (by decide +kernel), TX8, 13, rfl⟩
theorem ck_X8_room : Cond.code yX8_room cX8_room 3 (some .int) ∈ tw := mtb 416 (by decide +kernel) (by decide +kernel)
theorem mv_X8_room : MV 8 yX8_room := ⟨mtb 414 (by decide +kernel) (by decide +kernel), mtb 415 (by decide +kernel) (by decide +kernel), TX8, 13, rfl⟩
theorem ck_X8_round : Cond.code yX8_round cX8_round 2 (some .int) ∈ tw := mtb 564 (by decide +kernel) (by decide +kernel)
theorem mv_X8_round : MV 8 yX8_round := ⟨mtb 562 (by decide +kernel) (by decide +kernel), mtb 563 (by decide +kernel) (by decide +kernel), TX8, 13, rfl⟩
theorem ck_X8_soonest : Cond.code yX8_soonest cX8_soonest 3 (some .int) ∈ tw := mtb 500 (by decide +kernel) (by decide +kernel)
theorem mv_X8_soonest : MV 8 yX8_soonest := ⟨mtb 498 (by decide +kernel) (by decide +kernel), mtb 499 (by decide +kernel) (by decide +kernel), TX8, 13, rfl⟩
theorem ck_X8_suspect : Cond.code yX8_suspect cX8_suspect 2 (some .int) ∈ tw := mtb 437 (by decide +kernel) (by decide +kernel)
theorem mv_X8_suspect : MV 8 yX8_suspect := ⟨mtb 435 (by decide +kernel) (by decide +kernel), mtb 436 (by decide +kernel) (by decide +kernel), TX8, 13, rfl⟩
theorem ck_X8_tempers : Cond.code yX8_tempers cX8_tempers 3 (some .int) ∈ tw := mtb 634 (by decide +kernel) (by decide +kernel)
theorem mv_X8_tempers : MV 8 yX8_tempers := ⟨mtb 632 (by decide +kernel) (by decide +kernel), mtb 633 (by decide +kernel) (by decide +kernel), TX8, 13, rfl⟩
theorem ck_X8_trace : Cond.code yX8_trace cX8_trace 1 (some .long) ∈ tw := mtb 684 (by decide +kernel) (by decide +kernel)
theorem mv_X8_trace : MV 8 yX8_trace := ⟨mtb 682 (by decide +kernel) (by decide +kernel), mtb 683 (by decide +kernel) (by decide +kernel), TX8, 13, rfl⟩
theorem ck_X8_type : Cond.code yX8_type cX8_type 2 (some .int) ∈ tw := mtb 331 (by decide +kernel) (by decide +kernel)
theorem mv_X8_type : MV 8 yX8_type := ⟨mtb 329 (by decide +kernel) (by decide +kernel), mtb 330 (by decide +kernel) (by decide +kernel), TX8, 13, rfl⟩
theorem ck_X8_undo : Cond.code yX8_undo cX8_undo 1 (some .int) ∈ tw := mtb 492 (by decide +kernel) (by decide +kernel)
theorem mv_X8_undo : MV 8 yX8_undo := ⟨mtb 490 (by decide +kernel) (by decide +kernel), mtb 491 (by decide +kernel) (by decide +kernel), TX8, 13, rfl⟩
theorem ck_X8_which : Cond.code yX8_which cX8_which 5 (some .int) ∈ tw := mtb 642 (by decide +kernel) (by decide +kernel)
theorem mv_X8_which : MV 8 yX8_which := ⟨mtb 640 (by decide +kernel) (by decide +kernel), mtb 641 (by decide +kernel) (by decide +kernel), TX8, 13, rfl⟩
theorem ck_X9_advances : Cond.code yX9_advances cX9_advances 2 none ∈ tw := mtb 809 (by decide +kernel) (by decide +kernel)
theorem mv_X9_advances : MV 9 yX9_advances := ⟨mtb 808 (by decide +kernel) (by decide +kernel), mpr 22 (by decide +kernel) (by decide +kernel), TX9, 30, rfl⟩
theorem ck_X9_asks : Cond.code yX9_asks cX9_asks 2 (some .int) ∈ tw := mtb 904 (by decide +kernel) (by decide +kernel)
theorem mv_X9_asks : MV 9 yX9_asks := ⟨mtb 902 (by decide +kernel) (by decide +kernel), mtb 903 (by decide +kernel) (by decide +kernel), TX9, 30, rfl⟩
theorem ck_X9_back : Cond.code yX9_back cX9_back 3 (some .int) ∈ tw := mtb 1003 (by decide +kernel) (by decide +kernel)
theorem mv_X9_back : MV 9 yX9_back := ⟨mtb 1001 (by decide +kernel) (by decide +kernel), mtb 1002 (by decide +kernel) (by decide +kernel), TX9, 30, rfl⟩
theorem ck_X9_begins : Cond.code yX9_begins cX9_begins 1 none ∈ tw := mtb 694 (by decide +kernel) (by decide +kernel)
theorem mv_X9_begins : MV 9 yX9_begins := ⟨mtb 693 (by decide +kernel) (by decide +kernel), mpr 20 (by decide +kernel) (by decide +kernel), TX9, 30, rfl⟩
theorem ck_X9_bitOf : Cond.code yX9_bitOf cX9_bitOf 1 (some .int) ∈ tw := mtb 827 (by decide +kernel) (by decide +kernel)
theorem sk_X9_bitOf : Cond.static yX9_bitOf ∈ tw := mtb 826 (by decide +kernel) (by decide +kernel)
theorem ck_X9_clear : Cond.code yX9_clear cX9_clear 2 (some .int) ∈ tw := mtb 801 (by decide +kernel) (by decide +kernel)
theorem mv_X9_clear : MV 9 yX9_clear := ⟨mtb 799 (by decide +kernel) (by decide +kernel), mtb 800 (by decide +kernel) (by decide +kernel), TX9, 30, rfl⟩
theorem ck_X9_count : Cond.code yX9_count cX9_count 2 (some .int) ∈ tw := mtb 1007 (by decide +kernel) (by decide +kernel)
theorem mv_X9_count : MV 9 yX9_count := ⟨mtb 1005 (by decide +kernel) (by decide +kernel), mtb 1006 (by decide +kernel) (by decide +kernel), TX9, 30, rfl⟩
theorem ck_X9_country : Cond.code yX9_country cX9_country 6 (some .int) ∈ tw := mtb 945 (by decide +kernel) (by decide +kernel)
theorem mv_X9_country : MV 9 yX9_country := ⟨mtb 943 (by decide +kernel) (by decide +kernel), mtb 944 (by decide +kernel) (by decide +kernel), TX9, 30, rfl⟩
theorem ck_X9_does : Cond.code yX9_does cX9_does 3 (some .int) ∈ tw := mtb 896 (by decide +kernel) (by decide +kernel)
theorem mv_X9_does : MV 9 yX9_does := ⟨mtb 894 (by decide +kernel) (by decide +kernel), mtb 895 (by decide +kernel) (by decide +kernel), TX9, 30, rfl⟩
theorem ck_X9_doing : Cond.code yX9_doing cX9_doing 3 (some .int) ∈ tw := mtb 856 (by decide +kernel) (by decide +kernel)
theorem mv_X9_doing : MV 9 yX9_doing := ⟨mtb 854 (by decide +kernel) (by decide +kernel), mtb 855 (by decide +kernel) (by decide +kernel), TX9, 30, rfl⟩
theorem ck_X9_earned : Cond.code yX9_earned cX9_earned 3 (some .int) ∈ tw := mtb 872 (by decide +kernel) (by decide +kernel)
theorem mv_X9_earned : MV 9 yX9_earned := ⟨mtb 871 (by decide +kernel) (by decide +kernel), mpr 32 (by decide +kernel) (by decide +kernel), TX9, 30, rfl⟩
theorem ck_X9_felt : Cond.code yX9_felt cX9_felt 3 (some .int) ∈ tw := mtb 964 (by decide +kernel) (by decide +kernel)
theorem mv_X9_felt : MV 9 yX9_felt := ⟨mtb 962 (by decide +kernel) (by decide +kernel), mtb 963 (by decide +kernel) (by decide +kernel), TX9, 30, rfl⟩
theorem ck_X9_forget : Cond.code yX9_forget cX9_forget 2 (some .int) ∈ tw := mtb 968 (by decide +kernel) (by decide +kernel)
theorem mv_X9_forget : MV 9 yX9_forget := ⟨mtb 966 (by decide +kernel) (by decide +kernel), mtb 967 (by decide +kernel) (by decide +kernel), TX9, 30, rfl⟩
theorem ck_X9_gathers : Cond.code yX9_gathers cX9_gathers 3 none ∈ tw := mtb 937 (by decide +kernel) (by decide +kernel)
theorem mv_X9_gathers : MV 9 yX9_gathers := ⟨mtb 936 (by decide +kernel) (by decide +kernel), mpr 41 (by decide +kernel) (by decide +kernel), TX9, 30, rfl⟩
theorem ck_X9_gcd : Cond.code yX9_gcd cX9_gcd 5 (some .int) ∈ tw := mtb 986 (by decide +kernel) (by decide +kernel)
theorem sk_X9_gcd : Cond.static yX9_gcd ∈ tw := mtb 985 (by decide +kernel) (by decide +kernel)
theorem ck_X9_goes : Cond.code yX9_goes cX9_goes 3 (some .int) ∈ tw := mtb 880 (by decide +kernel) (by decide +kernel)
theorem mv_X9_goes : MV 9 yX9_goes := ⟨mtb 878 (by decide +kernel) (by decide +kernel), mtb 879 (by decide +kernel) (by decide +kernel), TX9, 30, rfl⟩
theorem ck_X9_having : Cond.code yX9_having cX9_having 5 (some .int) ∈ tw := mtb 956 (by decide +kernel) (by decide +kernel)
theorem mv_X9_having : MV 9 yX9_having := ⟨mtb 955 (by decide +kernel) (by decide +kernel), mpr 43 (by decide +kernel) (by decide +kernel), TX9, 30, rfl⟩
theorem ck_X9_house : Cond.code yX9_house cX9_house 3 (some .int) ∈ tw := mtb 805 (by decide +kernel) (by decide +kernel)
theorem mv_X9_house : MV 9 yX9_house := ⟨mtb 803 (by decide +kernel) (by decide +kernel), mtb 804 (by decide +kernel) (by decide +kernel), TX9, 30, rfl⟩
theorem ck_X9_hurt : Cond.code yX9_hurt cX9_hurt 5 (some .int) ∈ tw := mtb 900 (by decide +kernel) (by decide +kernel)
theorem mv_X9_hurt : MV 9 yX9_hurt := ⟨mtb 899 (by decide +kernel) (by decide +kernel), mpr 37 (by decide +kernel) (by decide +kernel), TX9, 30, rfl⟩
theorem ck_X9_in : Cond.code yX9_in cX9_in 3 (some .boolean) ∈ tw := mtb 797 (by decide +kernel) (by decide +kernel)
theorem sk_X9_in : Cond.static yX9_in ∈ tw := mtb 796 (by decide +kernel) (by decide +kernel)
theorem ck_X9_isDoing : Cond.code yX9_isDoing cX9_isDoing 2 (some .boolean) ∈ tw := mtb 860 (by decide +kernel) (by decide +kernel)
theorem mv_X9_isDoing : MV 9 yX9_isDoing := ⟨mtb 859 (by decide +kernel) (by decide +kernel), mpr 31 (by decide +kernel) (by decide +kernel), TX9, 30, rfl⟩
theorem ck_X9_isLetter : Cond.code yX9_isLetter cX9_isLetter 1 (some .boolean) ∈ tw := mtb 816 (by decide +kernel) (by decide +kernel)
theorem sk_X9_isLetter : Cond.static yX9_isLetter ∈ tw := mtb 815 (by decide +kernel) (by decide +kernel)
theorem ck_X9_isRoom : Cond.code yX9_isRoom cX9_isRoom 2 (some .boolean) ∈ tw := mtb 847 (by decide +kernel) (by decide +kernel)
theorem mv_X9_isRoom : MV 9 yX9_isRoom := ⟨mtb 846 (by decide +kernel) (by decide +kernel), mpr 29 (by decide +kernel) (by decide +kernel), TX9, 30, rfl⟩
theorem ck_X9_isSolved : Cond.code yX9_isSolved cX9_isSolved 2 (some .boolean) ∈ tw := mtb 852 (by decide +kernel) (by decide +kernel)
theorem mv_X9_isSolved : MV 9 yX9_isSolved := ⟨mtb 851 (by decide +kernel) (by decide +kernel), mpr 30 (by decide +kernel) (by decide +kernel), TX9, 30, rfl⟩
theorem ck_X9_isWell : Cond.code yX9_isWell cX9_isWell 1 (some .boolean) ∈ tw := mtb 820 (by decide +kernel) (by decide +kernel)
theorem mv_X9_isWell : MV 9 yX9_isWell := ⟨mtb 819 (by decide +kernel) (by decide +kernel), mpr 24 (by decide +kernel) (by decide +kernel), TX9, 30, rfl⟩
theorem ck_X9_keep : Cond.code yX9_keep cX9_keep 3 (some .int) ∈ tw := mtb 999 (by decide +kernel) (by decide +kernel)
theorem mv_X9_keep : MV 9 yX9_keep := ⟨mtb 997 (by decide +kernel) (by decide +kernel), mtb 998 (by decide +kernel) (by decide +kernel), TX9, 30, rfl⟩
theorem ck_X9_left : Cond.code yX9_left cX9_left 3 (some .int) ∈ tw := mtb 876 (by decide +kernel) (by decide +kernel)
theorem mv_X9_left : MV 9 yX9_left := ⟨mtb 875 (by decide +kernel) (by decide +kernel), mpr 33 (by decide +kernel) (by decide +kernel), TX9, 30, rfl⟩
theorem ck_X9_letterAt : Cond.code yX9_letterAt cX9_letterAt 2 (some .int) ∈ tw := mtb 813 (by decide +kernel) (by decide +kernel)
theorem mv_X9_letterAt : MV 9 yX9_letterAt := ⟨mtb 812 (by decide +kernel) (by decide +kernel), mpr 23 (by decide +kernel) (by decide +kernel), TX9, 30, rfl⟩
theorem ck_X9_loved : Cond.code yX9_loved cX9_loved 3 (some .int) ∈ tw := mtb 929 (by decide +kernel) (by decide +kernel)
theorem mv_X9_loved : MV 9 yX9_loved := ⟨mtb 927 (by decide +kernel) (by decide +kernel), mtb 928 (by decide +kernel) (by decide +kernel), TX9, 30, rfl⟩
theorem ck_X9_mayBegin : Cond.code yX9_mayBegin cX9_mayBegin 1 (some .boolean) ∈ tw := mtb 824 (by decide +kernel) (by decide +kernel)
theorem mv_X9_mayBegin : MV 9 yX9_mayBegin := ⟨mtb 823 (by decide +kernel) (by decide +kernel), mpr 25 (by decide +kernel) (by decide +kernel), TX9, 30, rfl⟩
theorem ck_X9_mayLast : Cond.code yX9_mayLast cX9_mayLast 2 (some .boolean) ∈ tw := mtb 888 (by decide +kernel) (by decide +kernel)
theorem mv_X9_mayLast : MV 9 yX9_mayLast := ⟨mtb 887 (by decide +kernel) (by decide +kernel), mpr 35 (by decide +kernel) (by decide +kernel), TX9, 30, rfl⟩
theorem ck_X9_measures : Cond.code yX9_measures cX9_measures 6 none ∈ tw := mtb 920 (by decide +kernel) (by decide +kernel)
theorem mv_X9_measures : MV 9 yX9_measures := ⟨mtb 919 (by decide +kernel) (by decide +kernel), mpr 39 (by decide +kernel) (by decide +kernel), TX9, 30, rfl⟩
theorem ck_X9_next : Cond.code yX9_next cX9_next 8 (some .int) ∈ tw := mtb 952 (by decide +kernel) (by decide +kernel)
theorem mv_X9_next : MV 9 yX9_next := ⟨mtb 950 (by decide +kernel) (by decide +kernel), mtb 951 (by decide +kernel) (by decide +kernel), TX9, 30, rfl⟩
theorem ck_X9_notes : Cond.code yX9_notes cX9_notes 2 none ∈ tw := mtb 892 (by decide +kernel) (by decide +kernel)
theorem mv_X9_notes : MV 9 yX9_notes := ⟨mtb 891 (by decide +kernel) (by decide +kernel), mpr 36 (by decide +kernel) (by decide +kernel), TX9, 30, rfl⟩
theorem ck_X9_now : Cond.code yX9_now cX9_now 2 (some .int) ∈ tw := mtb 868 (by decide +kernel) (by decide +kernel)
theorem mv_X9_now : MV 9 yX9_now := ⟨mtb 866 (by decide +kernel) (by decide +kernel), mtb 867 (by decide +kernel) (by decide +kernel), TX9, 30, rfl⟩
theorem ck_X9_number : Cond.code yX9_number cX9_number 3 (some .int) ∈ tw := mtb 839 (by decide +kernel) (by decide +kernel)
theorem mv_X9_number : MV 9 yX9_number := ⟨mtb 838 (by decide +kernel) (by decide +kernel), mpr 28 (by decide +kernel) (by decide +kernel), TX9, 30, rfl⟩
theorem ck_X9_odds : Cond.code yX9_odds cX9_odds 9 (some .int) ∈ tw := mtb 980 (by decide +kernel) (by decide +kernel)
theorem mv_X9_odds : MV 9 yX9_odds := ⟨mtb 978 (by decide +kernel) (by decide +kernel), mtb 979 (by decide +kernel) (by decide +kernel), TX9, 30, rfl⟩
theorem ck_X9_ones : Cond.code yX9_ones cX9_ones 3 (some .int) ∈ tw := mtb 948 (by decide +kernel) (by decide +kernel)
theorem sk_X9_ones : Cond.static yX9_ones ∈ tw := mtb 947 (by decide +kernel) (by decide +kernel)
theorem ck_X9_power : Cond.code yX9_power cX9_power 4 (some .int) ∈ tw := mtb 983 (by decide +kernel) (by decide +kernel)
theorem sk_X9_power : Cond.static yX9_power ∈ tw := mtb 982 (by decide +kernel) (by decide +kernel)
theorem ck_X9_questions : Cond.code yX9_questions cX9_questions 7 (some .int) ∈ tw := mtb 960 (by decide +kernel) (by decide +kernel)
theorem mv_X9_questions : MV 9 yX9_questions := ⟨mtb 958 (by decide +kernel) (by decide +kernel), mtb 959 (by decide +kernel) (by decide +kernel), TX9, 30, rfl⟩
theorem ck_X9_rate : Cond.code yX9_rate cX9_rate 6 (some .int) ∈ tw := mtb 990 (by decide +kernel) (by decide +kernel)
theorem mv_X9_rate : MV 9 yX9_rate := ⟨mtb 988 (by decide +kernel) (by decide +kernel), mtb 989 (by decide +kernel) (by decide +kernel), TX9, 30, rfl⟩
theorem ck_X9_readsItem : Cond.code yX9_readsItem cX9_readsItem 3 none ∈ tw := mtb 835 (by decide +kernel) (by decide +kernel)
theorem mv_X9_readsItem : MV 9 yX9_readsItem := ⟨mtb 834 (by decide +kernel) (by decide +kernel), mpr 27 (by decide +kernel) (by decide +kernel), TX9, 30, rfl⟩
theorem ck_X9_room : Cond.code yX9_room cX9_room 3 (some .int) ∈ tw := mtb 843 (by decide +kernel) (by decide +kernel)
theorem mv_X9_room : MV 9 yX9_room := ⟨mtb 841 (by decide +kernel) (by decide +kernel), mtb 842 (by decide +kernel) (by decide +kernel), TX9, 30, rfl⟩
theorem ck_X9_round : Cond.code yX9_round cX9_round 12 (some .int) ∈ tw := mtb 933 (by decide +kernel) (by decide +kernel)
theorem mv_X9_round : MV 9 yX9_round := ⟨mtb 931 (by decide +kernel) (by decide +kernel), mtb 932 (by decide +kernel) (by decide +kernel), TX9, 30, rfl⟩
theorem ck_X9_rowOf : Cond.code yX9_rowOf cX9_rowOf 7 (some .int) ∈ tw := mtb 941 (by decide +kernel) (by decide +kernel)
theorem mv_X9_rowOf : MV 9 yX9_rowOf := ⟨mtb 940 (by decide +kernel) (by decide +kernel), mpr 42 (by decide +kernel) (by decide +kernel), TX9, 30, rfl⟩
theorem ck_X9_settles : Cond.code yX9_settles cX9_settles 2 none ∈ tw := mtb 698 (by decide +kernel) (by decide +kernel)
theorem mv_X9_settles : MV 9 yX9_settles := ⟨mtb 697 (by decide +kernel) (by decide +kernel), mpr 21 (by decide +kernel) (by decide +kernel), TX9, 30, rfl⟩
theorem ck_X9_soonAt : Cond.code yX9_soonAt cX9_soonAt 2 (some .int) ∈ tw := mtb 916 (by decide +kernel) (by decide +kernel)
theorem mv_X9_soonAt : MV 9 yX9_soonAt := ⟨mtb 915 (by decide +kernel) (by decide +kernel), mpr 38 (by decide +kernel) (by decide +kernel), TX9, 30, rfl⟩
theorem ck_X9_soonBy : Cond.code yX9_soonBy cX9_soonBy 7 (some .int) ∈ tw := mtb 925 (by decide +kernel) (by decide +kernel)
theorem mv_X9_soonBy : MV 9 yX9_soonBy := ⟨mtb 924 (by decide +kernel) (by decide +kernel), mpr 40 (by decide +kernel) (by decide +kernel), TX9, 30, rfl⟩
theorem ck_X9_soonest : Cond.code yX9_soonest cX9_soonest 9 (some .int) ∈ tw := mtb 912 (by decide +kernel) (by decide +kernel)
theorem mv_X9_soonest : MV 9 yX9_soonest := ⟨mtb 910 (by decide +kernel) (by decide +kernel), mtb 911 (by decide +kernel) (by decide +kernel), TX9, 30, rfl⟩
theorem ck_X9_suspect : Cond.code yX9_suspect cX9_suspect 2 (some .int) ∈ tw := mtb 864 (by decide +kernel) (by decide +kernel)
theorem mv_X9_suspect : MV 9 yX9_suspect := ⟨mtb 862 (by decide +kernel) (by decide +kernel), mtb 863 (by decide +kernel) (by decide +kernel), TX9, 30, rfl⟩
theorem ck_X9_takes : Cond.code yX9_takes cX9_takes 3 (some .int) ∈ tw := mtb 831 (by decide +kernel) (by decide +kernel)
theorem mv_X9_takes : MV 9 yX9_takes := ⟨mtb 830 (by decide +kernel) (by decide +kernel), mpr 26 (by decide +kernel) (by decide +kernel), TX9, 30, rfl⟩
theorem ck_X9_tempers : Cond.code yX9_tempers cX9_tempers 5 (some .int) ∈ tw := mtb 972 (by decide +kernel) (by decide +kernel)
theorem mv_X9_tempers : MV 9 yX9_tempers := ⟨mtb 970 (by decide +kernel) (by decide +kernel), mtb 971 (by decide +kernel) (by decide +kernel), TX9, 30, rfl⟩
theorem ck_X9_trace : Cond.code yX9_trace cX9_trace 1 (some .long) ∈ tw := mtb 1011 (by decide +kernel) (by decide +kernel)
theorem mv_X9_trace : MV 9 yX9_trace := ⟨mtb 1009 (by decide +kernel) (by decide +kernel), mtb 1010 (by decide +kernel) (by decide +kernel), TX9, 30, rfl⟩
theorem ck_X9_type : Cond.code yX9_type cX9_type 2 (some .int) ∈ tw := mtb 794 (by decide +kernel) (by decide +kernel)
theorem mv_X9_type : MV 9 yX9_type := ⟨mtb 792 (by decide +kernel) (by decide +kernel), mtb 793 (by decide +kernel) (by decide +kernel), TX9, 30, rfl⟩
theorem ck_X9_undo : Cond.code yX9_undo cX9_undo 2 (some .int) ∈ tw := mtb 908 (by decide +kernel) (by decide +kernel)
theorem mv_X9_undo : MV 9 yX9_undo := ⟨mtb 906 (by decide +kernel) (by decide +kernel), mtb 907 (by decide +kernel) (by decide +kernel), TX9, 30, rfl⟩
theorem ck_X9_walk : Cond.code yX9_walk cX9_walk 4 (some .int) ∈ tw := mtb 884 (by decide +kernel) (by decide +kernel)
theorem mv_X9_walk : MV 9 yX9_walk := ⟨mtb 883 (by decide +kernel) (by decide +kernel), mpr 34 (by decide +kernel) (by decide +kernel), TX9, 30, rfl⟩
theorem ck_X9_which : Cond.code yX9_which cX9_which 5 (some .int) ∈ tw := mtb 976 (by decide +kernel) (by decide +kernel)
theorem mv_X9_which : MV 9 yX9_which := ⟨mtb 974 (by decide +kernel) (by decide +kernel), mtb 975 (by decide +kernel) (by decide +kernel), TX9, 30, rfl⟩
theorem twMax : ∀ w ∈ tMax, w ∈ tw := by
  intro w hw
  rcases List.mem_cons.mp hw with rfl | hw
  · exact mtb 508 (by decide +kernel) (by decide +kernel)
  rcases List.mem_cons.mp hw with rfl | hw
  · exact mtb 11 (by decide +kernel) (by decide +kernel)
  rcases List.mem_cons.mp hw with rfl | hw
  · exact mtb 509 (by decide +kernel) (by decide +kernel)
  · cases hw
theorem twMin : ∀ w ∈ tMin, w ∈ tw := by
  intro w hw
  rcases List.mem_cons.mp hw with rfl | hw
  · exact mtb 373 (by decide +kernel) (by decide +kernel)
  rcases List.mem_cons.mp hw with rfl | hw
  · exact mtb 11 (by decide +kernel) (by decide +kernel)
  rcases List.mem_cons.mp hw with rfl | hw
  · exact mtb 374 (by decide +kernel) (by decide +kernel)
  · cases hw
theorem twAbs : ∀ w ∈ tAbs, w ∈ tw := by
  intro w hw
  rcases List.mem_cons.mp hw with rfl | hw
  · exact mtb 459 (by decide +kernel) (by decide +kernel)
  rcases List.mem_cons.mp hw with rfl | hw
  · exact mtb 11 (by decide +kernel) (by decide +kernel)
  rcases List.mem_cons.mp hw with rfl | hw
  · exact mtb 460 (by decide +kernel) (by decide +kernel)
  · cases hw
theorem twCpy : ∀ w ∈ tCpy, w ∈ tw := by
  intro w hw
  rcases List.mem_cons.mp hw with rfl | hw
  · exact mtb 405 (by decide +kernel) (by decide +kernel)
  rcases List.mem_cons.mp hw with rfl | hw
  · exact mtb 404 (by decide +kernel) (by decide +kernel)
  rcases List.mem_cons.mp hw with rfl | hw
  · exact mtb 12 (by decide +kernel) (by decide +kernel)
  · cases hw
theorem mk_X0_21 : Cond.methodLink RX0 21 arraycopyName ∈ tw := mtb 569 (by decide +kernel) (by decide +kernel)
theorem mk_X1_41 : Cond.methodLink RX1 41 Lib.Math.min.name ∈ tw := mtb 506 (by decide +kernel) (by decide +kernel)
theorem mk_X1_46 : Cond.methodLink RX1 46 Lib.Math.max.name ∈ tw := mtb 507 (by decide +kernel) (by decide +kernel)
theorem mk_X2_52 : Cond.methodLink RX2 52 Lib.Math.abs.name ∈ tw := mtb 458 (by decide +kernel) (by decide +kernel)
theorem mk_X3_43 : Cond.methodLink RX3 43 Lib.Math.max.name ∈ tw := mtb 605 (by decide +kernel) (by decide +kernel)
theorem mk_X3_52 : Cond.methodLink RX3 52 Lib.Math.min.name ∈ tw := mtb 618 (by decide +kernel) (by decide +kernel)
theorem mk_X5_29 : Cond.methodLink RX5 29 Lib.Math.min.name ∈ tw := mtb 469 (by decide +kernel) (by decide +kernel)
theorem mk_X6_116 : Cond.methodLink RX6 116 Lib.Math.min.name ∈ tw := mtb 372 (by decide +kernel) (by decide +kernel)
theorem mk_X7_37 : Cond.methodLink RX7 37 arraycopyName ∈ tw := mtb 403 (by decide +kernel) (by decide +kernel)
theorem kk_X8_112 : Cond.constant RX8 112 (-1000000) ∈ tw := mtb 421 (by decide +kernel) (by decide +kernel)
theorem kk_X1_57 : Cond.constant RX1 57 1000000000 ∈ tw := mtb 510 (by decide +kernel) (by decide +kernel)
theorem kk_X9_145 : Cond.constant RX9 145 (-1000000) ∈ tw := mtb 848 (by decide +kernel) (by decide +kernel)
theorem kk_X9_172 : Cond.constant RX9 172 100000000 ∈ tw := mtb 921 (by decide +kernel) (by decide +kernel)
theorem kk_X9_205 : Cond.constantLong RX9 205 11 ∈ tw := mtb 991 (by decide +kernel) (by decide +kernel)
theorem kk_X9_207 : Cond.constantLong RX9 207 101 ∈ tw := mtb 992 (by decide +kernel) (by decide +kernel)
theorem kk_X9_209 : Cond.constantLong RX9 209 1011 ∈ tw := mtb 993 (by decide +kernel) (by decide +kernel)
theorem kk_X9_211 : Cond.constantLong RX9 211 10101 ∈ tw := mtb 994 (by decide +kernel) (by decide +kernel)
theorem kk_X9_213 : Cond.constantLong RX9 213 100001 ∈ tw := mtb 995 (by decide +kernel) (by decide +kernel)
theorem kk_J6_265 : Cond.constant RJ6 265 1431655765 ∈ tw := mtb 586 (by decide +kernel) (by decide +kernel)
theorem kk_J6_266 : Cond.constant RJ6 266 858993459 ∈ tw := mtb 587 (by decide +kernel) (by decide +kernel)
theorem kk_J6_267 : Cond.constant RJ6 267 252645135 ∈ tw := mtb 588 (by decide +kernel) (by decide +kernel)
theorem fs_KIND_MARK : Cond.fieldLink RX8 274 "DoorCases" "KIND_MARK" "[I" ∈ tw := mtb 664 (by decide +kernel) (by decide +kernel)
theorem fs_KIND_ABOVE : Cond.fieldLink RX8 277 "DoorCases" "KIND_ABOVE" "[I" ∈ tw := mtb 666 (by decide +kernel) (by decide +kernel)
theorem sh_0 : shp 0 = (11, 13) := rfl
theorem sh_1 : shp 1 = (9, 7) := rfl
theorem sh_2 : shp 2 = (0, 200) := rfl
theorem sh_3 : shp 3 = (5, 12) := rfl
theorem sh_4 : shp 4 = (0, 5) := rfl
theorem sh_5 : shp 5 = (0, 5) := rfl
theorem sh_6 : shp 6 = (0, 5) := rfl
theorem sh_7 : shp 7 = (0, 5) := rfl
theorem sh_8 : shp 8 = (0, 5) := rfl
theorem sh_9 : shp 9 = (0, 6) := rfl
theorem sh_10 : shp 10 = (5, 12) := rfl
theorem sh_11 : shp 11 = (0, 5) := rfl
theorem sh_12 : shp 12 = (0, 5) := rfl
theorem sh_13 : shp 13 = (0, 5) := rfl
theorem sh_14 : shp 14 = (0, 5) := rfl
theorem sh_15 : shp 15 = (0, 5) := rfl
theorem sh_16 : shp 16 = (0, 6) := rfl
theorem sh_17 : shp 17 = (10, 7) := rfl
theorem sh_18 : shp 18 = (0, 5) := rfl
theorem sh_19 : shp 19 = (0, 5) := rfl
theorem sh_20 : shp 20 = (8, 3) := rfl
theorem sh_21 : shp 21 = (2, 10) := rfl
theorem sh_22 : shp 22 = (10, 7) := rfl
theorem sh_23 : shp 23 = (0, 5) := rfl
theorem sh_24 : shp 24 = (0, 5) := rfl
theorem sh_25 : shp 25 = (10, 7) := rfl
theorem sh_26 : shp 26 = (0, 5) := rfl
theorem sh_27 : shp 27 = (0, 5) := rfl
theorem sh_28 : shp 28 = (10, 7) := rfl
theorem sh_29 : shp 29 = (0, 5) := rfl
theorem sh_30 : shp 30 = (0, 5) := rfl
theorem sh_31 : shp 31 = (10, 7) := rfl
theorem sh_32 : shp 32 = (0, 5) := rfl
theorem sh_33 : shp 33 = (0, 5) := rfl
theorem sh_34 : shp 34 = (10, 7) := rfl
theorem sh_35 : shp 35 = (0, 5) := rfl
theorem sh_36 : shp 36 = (0, 5) := rfl
theorem sh_37 : shp 37 = (10, 7) := rfl
theorem sh_38 : shp 38 = (0, 5) := rfl
theorem sh_39 : shp 39 = (0, 5) := rfl
theorem sh_40 : shp 40 = (10, 7) := rfl
theorem sh_41 : shp 41 = (0, 5) := rfl
theorem sh_42 : shp 42 = (0, 5) := rfl
theorem sh_43 : shp 43 = (10, 7) := rfl
theorem sh_44 : shp 44 = (0, 5) := rfl
theorem sh_45 : shp 45 = (0, 5) := rfl
theorem sh_46 : shp 46 = (10, 7) := rfl
theorem sh_47 : shp 47 = (0, 5) := rfl
theorem sh_48 : shp 48 = (0, 5) := rfl
theorem sh_49 : shp 49 = (10, 7) := rfl
theorem sh_50 : shp 50 = (0, 5) := rfl
theorem sh_51 : shp 51 = (0, 5) := rfl
theorem sh_52 : shp 52 = (2, 2) := rfl
theorem sh_53 : shp 53 = (10, 7) := rfl
theorem sh_54 : shp 54 = (0, 5) := rfl
theorem sh_55 : shp 55 = (0, 5) := rfl
theorem sh_56 : shp 56 = (10, 7) := rfl
theorem sh_57 : shp 57 = (0, 5) := rfl
theorem sh_58 : shp 58 = (0, 5) := rfl
theorem sh_59 : shp 59 = (4, 7) := rfl
theorem sh_60 : shp 60 = (0, 186) := rfl
theorem sh_61 : shp 61 = (0, 5) := rfl
theorem sh_62 : shp 62 = (0, 5) := rfl
theorem sh_63 : shp 63 = (0, 5) := rfl
theorem sh_64 : shp 64 = (3, 7) := rfl
theorem sh_65 : shp 65 = (0, 5) := rfl
theorem sh_66 : shp 66 = (0, 5) := rfl
theorem sh_67 : shp 67 = (0, 5) := rfl
theorem sh_68 : shp 68 = (6, 2) := rfl
theorem sh_69 : shp 69 = (0, 64) := rfl
theorem sh_70 : shp 70 = (0, 5) := rfl
theorem sh_71 : shp 71 = (7, 3) := rfl
theorem sh_72 : shp 72 = (0, 5) := rfl
theorem sh_73 : shp 73 = (0, 5) := rfl
theorem sh_74 : shp 74 = (0, 7) := rfl
theorem sh_75 : shp 75 = (12, 30) := rfl
theorem sh_76 : shp 76 = (0, 200) := rfl
theorem sh_77 : shp 77 = (0, 12) := rfl
theorem sh_78 : shp 78 = (0, 5) := rfl
theorem sh_79 : shp 79 = (0, 10) := rfl
theorem sh_80 : shp 80 = (0, 10) := rfl
theorem sh_81 : shp 81 = (0, 10) := rfl
theorem sh_82 : shp 82 = (0, 10) := rfl
theorem sh_83 : shp 83 = (0, 12) := rfl
theorem sh_84 : shp 84 = (0, 15) := rfl
theorem sh_85 : shp 85 = (0, 30) := rfl
theorem sh_86 : shp 86 = (1, 2) := rfl
theorem sh_87 : shp 87 = (0, 150) := rfl
theorem sh_88 : shp 88 = (0, 5) := rfl
theorem sh_89 : shp 89 = (0, 5) := rfl
theorem sh_90 : shp 90 = (0, 186) := rfl
theorem sh_91 : shp 91 = (0, 5) := rfl
theorem sh_92 : shp 92 = (0, 5) := rfl
theorem sh_93 : shp 93 = (0, 5) := rfl
theorem sh_94 : shp 94 = (0, 64) := rfl
end
section
/-! the rows as the program prints them: places named, memories named -/
theorem vp_lit {i : Int32} {n : Nat} (h : ¬ (i < 0 ∨ n ≤ i.toNatClampNeg)) : vp_in i n := h
def msk : List Bool → List (Option Value) → List (Option Value)
  | true :: ms, x :: L => x :: msk ms L
  | false :: ms, _ :: L => none :: msk ms L
  | _, _ => []
theorem msk_get : ∀ (ms : List Bool) (L : List (Option Value)) (i : Nat) (v : Value), (msk ms L)[i]? = some (some v) → L[i]? = some (some v)
  | true :: ms, x :: L, 0, v, h => h
  | true :: ms, x :: L, i + 1, v, h => msk_get ms L i v h
  | false :: ms, x :: L, 0, v, h => by simp [msk] at h
  | false :: ms, x :: L, i + 1, v, h => msk_get ms L i v h
  | [], L, i, v, h => by simp [msk] at h
  | b :: ms, [], i, v, h => by cases b <;> simp [msk] at h
theorem sHo {h : Nat} (hh : h = 3 ∨ h = 10) : shp h = (5, 12) := by rcases hh with rfl | rfl <;> rfl
theorem sH1 {h : Nat} (hh : h = 3 ∨ h = 10) : shp (h + 1) = (0, 5) := by rcases hh with rfl | rfl <;> rfl
theorem sH2 {h : Nat} (hh : h = 3 ∨ h = 10) : shp (h + 2) = (0, 5) := by rcases hh with rfl | rfl <;> rfl
theorem sH3 {h : Nat} (hh : h = 3 ∨ h = 10) : shp (h + 3) = (0, 5) := by rcases hh with rfl | rfl <;> rfl
theorem sH4 {h : Nat} (hh : h = 3 ∨ h = 10) : shp (h + 4) = (0, 5) := by rcases hh with rfl | rfl <;> rfl
theorem sH5 {h : Nat} (hh : h = 3 ∨ h = 10) : shp (h + 5) = (0, 5) := by rcases hh with rfl | rfl <;> rfl
theorem sH6 {h : Nat} (hh : h = 3 ∨ h = 10) : shp (h + 6) = (0, 6) := by rcases hh with rfl | rfl <;> rfl
def isSc (a : Nat) : Prop := shp a = (10, 7) ∧ shp (a + 1) = (0, 5) ∧ shp (a + 2) = (0, 5)
theorem sc_17 : isSc 17 := ⟨rfl, rfl, rfl⟩
theorem sc_past {i : Int32} (h : vp_in i 10) : isSc (21 + 1 + 3 * i.toNatClampNeg) := by
  have h1 : i.toNatClampNeg < 10 := Nat.not_le.mp fun q => h (Or.inr q)
  generalize i.toNatClampNeg = j at h1
  unfold isSc
  revert j
  decide +kernel
theorem sc_img {i : Int32} (h : vp_in i 2) : isSc (52 + 1 + 3 * i.toNatClampNeg) := by
  have h1 : i.toNatClampNeg < 2 := Nat.not_le.mp fun q => h (Or.inr q)
  generalize i.toNatClampNeg = j at h1
  unfold isSc
  revert j
  decide +kernel
/-- an array of ints of n > 0 places -/
def isRow (a n : Nat) : Prop := shp a = (0, n) ∧ 0 < n
section VR2
variable {X : XT} {cc : ByteArray} {own : String} {d pc : Nat} {L : List (Option Value)} {st : List Value} {μ : Mem} {ret : Option FieldType} {P : Post}
theorem v_mask (ms : List Bool) (k : V X pc (msk ms L) st μ) : V X pc L st μ := v_forget _ (msk_get ms L) k
theorem w_puti (hX : Ok X cc own d) {c ci k N idx : Nat} {v : Int32} (hf : FL own idx ci k N) (hw : FW ci k .int) (hs : shp c = (ci + 3, N)) (hk : knd ci k = 0) (hd : decode cc pc = .ok (.putfield idx, 3)) (kk : ∀ m, m = ui μ c k v → V X (pc + 3) L st m) : V X pc L (.int v :: .ref c :: st) μ := v_puti hX hf hw hs hk hd (kk _ rfl)
theorem w_putz (hX : Ok X cc own d) {c ci k N idx : Nat} {v : Int32} (hf : FL own idx ci k N) (hw : FW ci k .boolean) (hs : shp c = (ci + 3, N)) (hk : knd ci k = 4) (hv : v = 0 ∨ v = 1) (hd : decode cc pc = .ok (.putfield idx, 3)) (kk : ∀ m, m = ui μ c k v → V X (pc + 3) L st m) : V X pc L (.int v :: .ref c :: st) μ := v_putz hX hf hw hs hk hv hd (kk _ rfl)
theorem w_putl (hX : Ok X cc own d) {c ci k N idx : Nat} {v : Int64} (hf : FL own idx ci k N) (hw : FW ci k .long) (hs : shp c = (ci + 3, N)) (hk : knd ci k = 1) (hd : decode cc pc = .ok (.putfield idx, 3)) (kk : ∀ m, m = ul μ c k v → V X (pc + 3) L st m) : V X pc L (.long v :: .ref c :: st) μ := v_putl hX hf hw hs hk hd (kk _ rfl)
theorem w_putp (hX : Ok X cc own d) {k idx : Nat} {v : Nat} (hf : FL own idx 8 k 13) (hw : FW 8 k (.object "DoorCases$House")) (hk : knd 8 k = 3) (hd : decode cc pc = .ok (.putfield idx, 3)) (kk : ∀ m, m = up μ k v → V X (pc + 3) L st m) : V X pc L (.ref v :: .ref 0 :: st) μ := v_putp hX hf hw hk hd (kk _ rfl)
theorem w_iald (hX : Ok X cc own d) {c n : Nat} {i : Int32} (j : Nat) (hs : shp c = (0, n)) (hin : vp_in i n) (hj : i.toNatClampNeg = j) (hd : decode cc pc = .ok (.iaload, 1)) (kk : V X (pc + 1) L (.int (gi μ c j) :: st) μ) : V X pc L (.int i :: .ref c :: st) μ := by subst hj; exact v_iald hX hs hin hd kk
theorem w_bald (hX : Ok X cc own d) {c n : Nat} {i : Int32} (j : Nat) (hs : shp c = (1, n)) (hin : vp_in i n) (hj : i.toNatClampNeg = j) (hd : decode cc pc = .ok (.baload, 1)) (kk : V X (pc + 1) L (.int (gi μ c j) :: st) μ) : V X pc L (.int i :: .ref c :: st) μ := by subst hj; exact v_bald hX hs hin hd kk
theorem w_iast (hX : Ok X cc own d) {c n : Nat} {i x : Int32} (j : Nat) (hs : shp c = (0, n)) (hin : vp_in i n) (hj : i.toNatClampNeg = j) (hd : decode cc pc = .ok (.iastore, 1)) (kk : ∀ m, m = ui μ c j x → V X (pc + 1) L st m) : V X pc L (.int x :: .int i :: .ref c :: st) μ := by subst hj; exact v_iast hX hs hin hd (kk _ rfl)
theorem w_bast (hX : Ok X cc own d) {c n : Nat} {i x : Int32} (j : Nat) (hs : shp c = (1, n)) (hin : vp_in i n) (hj : i.toNatClampNeg = j) (hx : x = 0 ∨ x = 1) (hd : decode cc pc = .ok (.bastore, 1)) (kk : ∀ m, m = ui μ c j x → V X (pc + 1) L st m) : V X pc L (.int x :: .int i :: .ref c :: st) μ := by subst hj; exact v_bast hX hs hin hx hd (kk _ rfl)
theorem w_copy (hX : Ok X cc own d) {idx c0 c1 n0 n1 : Nat} {n : Int32} (nn : Nat) (hl : Cond.methodLink own idx arraycopyName ∈ tw) (hs0 : shp c0 = (0, n0)) (hs1 : shp c1 = (0, n1)) (hz0 : 0 < n0) (hz1 : 0 < n1) (hd0 : 2 ≤ d) (hcat : (st.map fun v => v.category).sum ≤ 8) (hd : decode cc pc = .ok (.invokestatic idx, 3)) (hn : n.toNatClampNeg = nn) (h3 : ¬ n < 0) (h4 : nn ≤ n0) (h5 : nn ≤ n1)
    (k : ∀ m, m = ua μ c1 (va_cpy (gi μ c0) (gi μ c1) 0 0 nn) → V X (pc + 3) L st m) : V X pc L (.int n :: .int 0 :: .ref c1 :: .int 0 :: .ref c0 :: st) μ := by
  subst hn
  exact v_copy hX hl twCpy hs0 hs1 hz0 hz1 hd0 hcat hd (by decide) (by decide) h3 (by rw [show (0 : Int32).toNatClampNeg = 0 from rfl]; omega) (by rw [show (0 : Int32).toNatClampNeg = 0 from rfl]; omega) (k _ rfl)
theorem w_istore_n (hX : Ok X cc own d) {i : Fin 4} {x : Int32} (hd : decode cc pc = .ok (.istore_n i, 1)) (hn : (i : Nat) < xn X) (k : ∀ y, y = x → V X (pc + 1) (L.set i (some (.int y))) st μ) : V X pc L (.int x :: st) μ := v_istore_n hX hd hn (k _ rfl)
theorem w_istore (hX : Ok X cc own d) {i : Nat} {x : Int32} (hd : decode cc pc = .ok (.istore i, 2)) (hn : i < xn X) (k : ∀ y, y = x → V X (pc + 2) (L.set i (some (.int y))) st μ) : V X pc L (.int x :: st) μ := v_istore hX hd hn (k _ rfl)
end VR2
theorem lossMd : yX8_lossOf.cls ≠ "java/lang/invoke/MethodHandle" ∧ yX8_lossOf.cls ≠ "java/lang/invoke/VarHandle" ∧ (parseMethodDescriptor yX8_lossOf.desc).map (fun d => d.parameters.length) = some 2 := ⟨by decide +kernel, by decide +kernel, by decide +kernel⟩
theorem call_eq {α β : Type} {a : α} {b : β} {F : α → β → Prop} : (∀ (x : α) (m : β), x = a → m = b → F x m) ↔ F a b := ⟨fun h => h a b rfl rfl, fun h x m e1 e2 => by subst e1; subst e2; exact h⟩
end
section
/-! the leaves' contracts: what must hold before, what holds behind -/
def fr (cs : List Nat) (μ m : Mem) : Prop := (∀ c, c ∉ cs → ∀ k, gi m c k = gi μ c k) ∧ m.2 = μ.2
def pre_X2_hasRoom (w : Nat) (p1 : Int32) (μ : Mem) : Prop := True
def post_X2_hasRoom (w : Nat) (p1 : Int32) (μ : Mem) (x : Int32) (m : Mem) : Prop := x = (if p1 < 0 ∨ gi μ w 0 ≤ p1 then 0 else 1) ∧ m = μ
def pre_X2_hasDoing (w : Nat) (p1 : Int32) (μ : Mem) : Prop := True
def post_X2_hasDoing (w : Nat) (p1 : Int32) (μ : Mem) (x : Int32) (m : Mem) : Prop := x = (if p1 < 0 ∨ gi μ w 4 ≤ p1 then 0 else 1) ∧ m = μ
def pre_X2_fullLoss (w : Nat) (p1 p2 : Int32) (μ : Mem) : Prop := vp_in p1 5 ∧ vp_in p2 5
def post_X2_fullLoss (w : Nat) (p1 p2 : Int32) (μ : Mem) (x : Int32) (m : Mem) : Prop := x = gi μ (w + 4) p2.toNatClampNeg * gi μ (w + 2) p1.toNatClampNeg ∧ m = μ
def absI (x : Int32) : Int32 := if 0 ≤ x then x else 0 - x
def pre_X2_walkBetween (w : Nat) (p1 p2 : Int32) (μ : Mem) : Prop := True
def post_X2_walkBetween (w : Nat) (p1 p2 : Int32) (μ : Mem) (x : Int32) (m : Mem) : Prop := x = gi μ w 10 * absI (p2 - (if p1 = -9 then 0 else p1)) ∧ m = μ
def pre_X2_tellNothing (w : Nat) (μ : Mem) : Prop := True
def post_X2_tellNothing (w : Nat) (μ : Mem) (m : Mem) : Prop := m = ui (ui (ui (ui (ui (ui μ w 0 0) w 4 0) w 7 0) w 9 0) w 10 1) w 11 120
def pre_X8_lossOf (p1 p2 : Int32) (μ : Mem) : Prop := True
def post_X8_lossOf (p1 p2 : Int32) (μ : Mem) (x : Int32) (m : Mem) : Prop := x = (if p2 = 0 then p1 else p1 / 2) ∧ m = μ
def pre_X7_isSolved (p1 : Int32) (μ : Mem) : Prop := True
def post_X7_isSolved (p1 : Int32) (μ : Mem) (x : Int32) (m : Mem) : Prop := x = (if (gi μ 17 3 >>> (p1 &&& 31)) &&& 1 = 1 then 1 else 0) ∧ m = μ
def pre_X5_lose (μ : Mem) : Prop := True
def post_X5_lose (μ m : Mem) : Prop := m = ui μ 20 2 0
def pre_X6_isDigit (p1 : Int32) (μ : Mem) : Prop := True
def post_X6_isDigit (p1 : Int32) (μ : Mem) (x : Int32) (m : Mem) : Prop := x = (if p1 < 48 ∨ 57 < p1 then 0 else 1) ∧ m = μ
def pre_X6_failsAt (p1 : Int32) (μ : Mem) : Prop := True
def post_X6_failsAt (p1 : Int32) (μ : Mem) (x : Int32) (m : Mem) : Prop := x = 0 ∧ m = ui μ 1 2 p1
def pre_X1_indexOf (p1 p2 : Int32) (μ : Mem) : Prop := True
def post_X1_indexOf (p1 p2 : Int32) (μ : Mem) (x : Int32) (m : Mem) : Prop := x = p1 * 6 + p2 ∧ m = μ
def bitsF (x : Int32) : Int32 :=
  let a := x - ((x.toUInt32 >>> (Int32.toUInt32 1 &&& Int32.toUInt32 31)).toInt32 &&& 1431655765)
  let b := (a &&& 858993459) + ((a.toUInt32 >>> (Int32.toUInt32 2 &&& Int32.toUInt32 31)).toInt32 &&& 858993459)
  let c := (b + (b.toUInt32 >>> (Int32.toUInt32 4 &&& Int32.toUInt32 31)).toInt32) &&& 252645135
  let d := c + (c.toUInt32 >>> (Int32.toUInt32 8 &&& Int32.toUInt32 31)).toInt32
  let e := d + (d.toUInt32 >>> (Int32.toUInt32 16 &&& Int32.toUInt32 31)).toInt32
  e &&& 63
def pre_J6_bitCount_0f7a4 (p1 : Int32) (μ : Mem) : Prop := True
def post_J6_bitCount_0f7a4 (p1 : Int32) (μ : Mem) (x : Int32) (m : Mem) : Prop := x = bitsF p1 ∧ m = μ
def pre_J7_fill_53178 (a na : Nat) (p1 : Int32) (μ : Mem) : Prop := na < 1000
def post_J7_fill_53178 (a na : Nat) (p1 : Int32) (μ : Mem) (m : Mem) : Prop := fr [a] μ m ∧ ∀ j, j < na → gi m a j = p1
def inv_J7_fill_53178_5 (a na : Nat) (p1 : Int32) (μ : Mem) (n : Nat) (l2 l3 : Int32) (m : Mem) : Prop := ∃ i, i ≤ na ∧ n = na - i ∧ l2 = nI i ∧ l3 = nI na ∧ fr [a] μ m ∧ ∀ j, j < i → gi m a j = p1
end
section
theorem fr_refl (cs : List Nat) (μ : Mem) : fr cs μ μ := ⟨fun _ _ _ => rfl, rfl⟩
theorem fr_trans {cs : List Nat} {a b c : Mem} (h1 : fr cs a b) (h2 : fr cs b c) : fr cs a c := ⟨fun q hq k => (h2.1 q hq k).trans (h1.1 q hq k), h2.2.trans h1.2⟩
theorem fr_mono {cs ds : List Nat} {a b : Mem} (h : fr cs a b) (hs : ∀ c ∈ cs, c ∈ ds) : fr ds a b := ⟨fun q hq k => h.1 q (fun z => hq (hs q z)) k, h.2⟩
theorem fr_ui {cs : List Nat} {μ : Mem} {c k : Nat} {v : Int32} (h : c ∈ cs) : fr cs μ (ui μ c k v) := ⟨fun q hq j => by
  have : q ≠ c := fun e => hq (e ▸ h)
  simp [gi, ui, this], rfl⟩
theorem fr_ua {cs : List Nat} {μ : Mem} {c : Nat} {f : Nat → Int32} (h : c ∈ cs) : fr cs μ (ua μ c f) := ⟨fun q hq j => by
  have : q ≠ c := fun e => hq (e ▸ h)
  simp [gi, ua, this], rfl⟩
theorem gi_ui (μ : Mem) (c k : Nat) (v : Int32) (a b : Nat) : gi (ui μ c k v) a b = if a = c ∧ b = k then v else gi μ a b := rfl
theorem gi_ua (μ : Mem) (c : Nat) (f : Nat → Int32) (a b : Nat) : gi (ua μ c f) a b = if a = c then f b else gi μ a b := rfl
theorem gi_ul (μ : Mem) (c k : Nat) (v : Int64) (a b : Nat) : gi (ul μ c k v) a b = gi μ a b := rfl
theorem gi_up (μ : Mem) (k v a b : Nat) : gi (up μ k v) a b = gi μ a b := rfl
theorem gl_ui (μ : Mem) (c k : Nat) (v : Int32) (a b : Nat) : gl (ui μ c k v) a b = gl μ a b := rfl
theorem gl_ua (μ : Mem) (c : Nat) (f : Nat → Int32) (a b : Nat) : gl (ua μ c f) a b = gl μ a b := rfl
theorem gl_up (μ : Mem) (k v a b : Nat) : gl (up μ k v) a b = gl μ a b := rfl
theorem gl_ul (μ : Mem) (c k : Nat) (v : Int64) (a b : Nat) : gl (ul μ c k v) a b = if a = c ∧ b = k then v else gl μ a b := rfl
theorem gp_ui (μ : Mem) (c k : Nat) (v : Int32) (a : Nat) : gp (ui μ c k v) a = gp μ a := rfl
theorem gp_ua (μ : Mem) (c : Nat) (f : Nat → Int32) (a : Nat) : gp (ua μ c f) a = gp μ a := rfl
theorem gp_ul (μ : Mem) (c k : Nat) (v : Int64) (a : Nat) : gp (ul μ c k v) a = gp μ a := rfl
theorem gp_up (μ : Mem) (k v a : Nat) : gp (up μ k v) a = if a = k then v else gp μ a := rfl
def S_X2_hasRoom : Tr := fun av μ P => ∃ (w : Nat) (p1 : Int32), av = [.ref w, .int p1] ∧ (w = 3 ∨ w = 10) ∧ pre_X2_hasRoom w p1 μ ∧ ∀ (x : Int32) (m : Mem), post_X2_hasRoom w p1 μ x m → P (some (.int x)) m
def vc_X2_hasRoom_0 (w : Nat) (p1 : Int32)  (μ : Mem) (R : Int32 → Mem → Prop)  : Prop :=
  ((p1 < 0 → R 0 μ) ∧ (¬ p1 < 0 → (((gi μ w 0) ≤ p1 → R 0 μ) ∧ (¬ (gi μ w 0) ≤ p1 → R 1 μ))))
set_option maxRecDepth 20000 in
set_option maxHeartbeats 4000000 in
theorem wk_X2_hasRoom_0 {X : XT} {P : Post} (hO : OkM X cX2_hasRoom RX2 0 (some .boolean) P) (hn : xn X = 2) (w : Nat) (p1 : Int32) (hw : w = 3 ∨ w = 10)  (μ : Mem) {R : Int32 → Mem → Prop} (hR : ∀ x m, R x m → P (some (.int x)) m)    (h : vc_X2_hasRoom_0 w p1  μ R ) : V X 0 [some (.ref w), some (.int p1)] [] μ := by
  have hX := hO.1
  unfold vc_X2_hasRoom_0 at h
  refine v_iload_n hX dX2_hasRoom_0 rfl (?_ : V X 1 [some (.ref w), some (.int p1)] [.int p1] μ)
  refine v_if_lt hX 16 dX2_hasRoom_1 rfl (fun c1 => ?_) (fun c1 => ?_)
  · replace h := h.1 c1
    refine v_iconst hX 0 dX2_hasRoom_16 rfl (?_ : V X 17 [some (.ref w), some (.int p1)] [.int 0] μ)
    exact v_zret hO dX2_hasRoom_17 (by decide) (hR _ _ h)
  · replace h := h.2 c1
    refine v_iload_n hX dX2_hasRoom_4 rfl (?_ : V X 5 [some (.ref w), some (.int p1)] [.int p1] μ)
    refine v_aload_n hX dX2_hasRoom_5 rfl (?_ : V X 6 [some (.ref w), some (.int p1)] [.ref w, .int p1] μ)
    refine v_geti hX fk_X2_33 (sHo hw) rfl dX2_hasRoom_6 (?_ : V X 9 [some (.ref w), some (.int p1)] [.int (gi μ w 0), .int p1] μ)
    refine v_icmp_ge hX 16 dX2_hasRoom_9 rfl (fun c2 => ?_) (fun c2 => ?_)
    · replace h := h.1 c2
      refine v_iconst hX 0 dX2_hasRoom_16 rfl (?_ : V X 17 [some (.ref w), some (.int p1)] [.int 0] μ)
      exact v_zret hO dX2_hasRoom_17 (by decide) (hR _ _ h)
    · replace h := h.2 c2
      refine v_iconst hX 1 dX2_hasRoom_12 rfl (?_ : V X 13 [some (.ref w), some (.int p1)] [.int 1] μ)
      refine v_goto hX 17 dX2_hasRoom_13 rfl (?_ : V X 17 [some (.ref w), some (.int p1)] [.int 1] μ)
      exact v_zret hO dX2_hasRoom_17 (by decide) (hR _ _ h)
set_option maxRecDepth 20000 in
set_option maxHeartbeats 4000000 in
theorem vp_X2_hasRoom_0 (w : Nat) (p1 : Int32) (hw : w = 3 ∨ w = 10) (μ : Mem) (hpre : pre_X2_hasRoom w p1 μ) : vc_X2_hasRoom_0 w p1 μ (post_X2_hasRoom w p1 μ)  := by
  simp only [vc_X2_hasRoom_0, and_imp, call_eq, forall_eq, forall_const, true_and, and_true]
  unfold post_X2_hasRoom; grind
theorem sp_X2_hasRoom : Sp yX2_hasRoom cX2_hasRoom 2 (some .boolean) 0 S_X2_hasRoom := by
  refine sp_of (by decide) (fun av μ P h => ?_) ?_
  · obtain ⟨w, p1, rfl, -⟩ := h
    refine ⟨Nat.le_of_ble_eq_true rfl, fun v hv => ?_⟩
    simp only [List.mem_cons, List.not_mem_nil, or_false] at hv
    rcases hv with rfl | rfl <;> rfl
  · rintro X P hO _ μ ⟨w, p1, rfl, hw, hpre, hpost⟩ hn
    exact wk_X2_hasRoom_0 hO hn w p1 hw μ hpost (vp_X2_hasRoom_0 w p1 hw μ hpre)
def S_X2_hasDoing : Tr := fun av μ P => ∃ (w : Nat) (p1 : Int32), av = [.ref w, .int p1] ∧ (w = 3 ∨ w = 10) ∧ pre_X2_hasDoing w p1 μ ∧ ∀ (x : Int32) (m : Mem), post_X2_hasDoing w p1 μ x m → P (some (.int x)) m
def vc_X2_hasDoing_0 (w : Nat) (p1 : Int32)  (μ : Mem) (R : Int32 → Mem → Prop)  : Prop :=
  ((p1 < 0 → R 0 μ) ∧ (¬ p1 < 0 → (((gi μ w 4) ≤ p1 → R 0 μ) ∧ (¬ (gi μ w 4) ≤ p1 → R 1 μ))))
set_option maxRecDepth 20000 in
set_option maxHeartbeats 4000000 in
theorem wk_X2_hasDoing_0 {X : XT} {P : Post} (hO : OkM X cX2_hasDoing RX2 0 (some .boolean) P) (hn : xn X = 2) (w : Nat) (p1 : Int32) (hw : w = 3 ∨ w = 10)  (μ : Mem) {R : Int32 → Mem → Prop} (hR : ∀ x m, R x m → P (some (.int x)) m)    (h : vc_X2_hasDoing_0 w p1  μ R ) : V X 0 [some (.ref w), some (.int p1)] [] μ := by
  have hX := hO.1
  unfold vc_X2_hasDoing_0 at h
  refine v_iload_n hX dX2_hasDoing_0 rfl (?_ : V X 1 [some (.ref w), some (.int p1)] [.int p1] μ)
  refine v_if_lt hX 16 dX2_hasDoing_1 rfl (fun c1 => ?_) (fun c1 => ?_)
  · replace h := h.1 c1
    refine v_iconst hX 0 dX2_hasDoing_16 rfl (?_ : V X 17 [some (.ref w), some (.int p1)] [.int 0] μ)
    exact v_zret hO dX2_hasDoing_17 (by decide) (hR _ _ h)
  · replace h := h.2 c1
    refine v_iload_n hX dX2_hasDoing_4 rfl (?_ : V X 5 [some (.ref w), some (.int p1)] [.int p1] μ)
    refine v_aload_n hX dX2_hasDoing_5 rfl (?_ : V X 6 [some (.ref w), some (.int p1)] [.ref w, .int p1] μ)
    refine v_geti hX fk_X2_37 (sHo hw) rfl dX2_hasDoing_6 (?_ : V X 9 [some (.ref w), some (.int p1)] [.int (gi μ w 4), .int p1] μ)
    refine v_icmp_ge hX 16 dX2_hasDoing_9 rfl (fun c2 => ?_) (fun c2 => ?_)
    · replace h := h.1 c2
      refine v_iconst hX 0 dX2_hasDoing_16 rfl (?_ : V X 17 [some (.ref w), some (.int p1)] [.int 0] μ)
      exact v_zret hO dX2_hasDoing_17 (by decide) (hR _ _ h)
    · replace h := h.2 c2
      refine v_iconst hX 1 dX2_hasDoing_12 rfl (?_ : V X 13 [some (.ref w), some (.int p1)] [.int 1] μ)
      refine v_goto hX 17 dX2_hasDoing_13 rfl (?_ : V X 17 [some (.ref w), some (.int p1)] [.int 1] μ)
      exact v_zret hO dX2_hasDoing_17 (by decide) (hR _ _ h)
set_option maxRecDepth 20000 in
set_option maxHeartbeats 4000000 in
theorem vp_X2_hasDoing_0 (w : Nat) (p1 : Int32) (hw : w = 3 ∨ w = 10) (μ : Mem) (hpre : pre_X2_hasDoing w p1 μ) : vc_X2_hasDoing_0 w p1 μ (post_X2_hasDoing w p1 μ)  := by
  simp only [vc_X2_hasDoing_0, and_imp, call_eq, forall_eq, forall_const, true_and, and_true]
  unfold post_X2_hasDoing; grind
theorem sp_X2_hasDoing : Sp yX2_hasDoing cX2_hasDoing 2 (some .boolean) 0 S_X2_hasDoing := by
  refine sp_of (by decide) (fun av μ P h => ?_) ?_
  · obtain ⟨w, p1, rfl, -⟩ := h
    refine ⟨Nat.le_of_ble_eq_true rfl, fun v hv => ?_⟩
    simp only [List.mem_cons, List.not_mem_nil, or_false] at hv
    rcases hv with rfl | rfl <;> rfl
  · rintro X P hO _ μ ⟨w, p1, rfl, hw, hpre, hpost⟩ hn
    exact wk_X2_hasDoing_0 hO hn w p1 hw μ hpost (vp_X2_hasDoing_0 w p1 hw μ hpre)
def S_X2_fullLoss : Tr := fun av μ P => ∃ (w : Nat) (p1 : Int32) (p2 : Int32), av = [.ref w, .int p1, .int p2] ∧ (w = 3 ∨ w = 10) ∧ pre_X2_fullLoss w p1 p2 μ ∧ ∀ (x : Int32) (m : Mem), post_X2_fullLoss w p1 p2 μ x m → P (some (.int x)) m
def vc_X2_fullLoss_0 (w : Nat) (p1 : Int32) (p2 : Int32)  (μ : Mem) (R : Int32 → Mem → Prop)  : Prop :=
  vp_in p2 5 ∧ vp_in p1 5 ∧ R ((gi μ (w + 4) (Int32.toNatClampNeg p2)) * (gi μ (w + 2) (Int32.toNatClampNeg p1))) μ
set_option maxRecDepth 20000 in
set_option maxHeartbeats 4000000 in
theorem wk_X2_fullLoss_0 {X : XT} {P : Post} (hO : OkM X cX2_fullLoss RX2 0 (some .int) P) (hn : xn X = 3) (w : Nat) (p1 : Int32) (p2 : Int32) (hw : w = 3 ∨ w = 10)  (μ : Mem) {R : Int32 → Mem → Prop} (hR : ∀ x m, R x m → P (some (.int x)) m)    (h : vc_X2_fullLoss_0 w p1 p2  μ R ) : V X 0 [some (.ref w), some (.int p1), some (.int p2)] [] μ := by
  have hX := hO.1
  unfold vc_X2_fullLoss_0 at h
  refine v_aload_n hX dX2_fullLoss_0 rfl (?_ : V X 1 [some (.ref w), some (.int p1), some (.int p2)] [.ref w] μ)
  refine v_getr hX (w + 4) fk_X2_21 (sHo hw) rfl rfl dX2_fullLoss_1 (?_ : V X 4 [some (.ref w), some (.int p1), some (.int p2)] [.ref (w + 4)] μ)
  refine v_iload_n hX dX2_fullLoss_4 rfl (?_ : V X 5 [some (.ref w), some (.int p1), some (.int p2)] [.int p2, .ref (w + 4)] μ)
  have hb1 := h.1
  replace h := h.2
  refine w_iald hX (Int32.toNatClampNeg p2) (sH4 hw) hb1 rfl dX2_fullLoss_5 (?_ : V X 6 [some (.ref w), some (.int p1), some (.int p2)] [.int (gi μ (w + 4) (Int32.toNatClampNeg p2))] μ)
  refine v_aload_n hX dX2_fullLoss_6 rfl (?_ : V X 7 [some (.ref w), some (.int p1), some (.int p2)] [.ref w, .int (gi μ (w + 4) (Int32.toNatClampNeg p2))] μ)
  refine v_getr hX (w + 2) fk_X2_15 (sHo hw) rfl rfl dX2_fullLoss_7 (?_ : V X 10 [some (.ref w), some (.int p1), some (.int p2)] [.ref (w + 2), .int (gi μ (w + 4) (Int32.toNatClampNeg p2))] μ)
  refine v_iload_n hX dX2_fullLoss_10 rfl (?_ : V X 11 [some (.ref w), some (.int p1), some (.int p2)] [.int p1, .ref (w + 2), .int (gi μ (w + 4) (Int32.toNatClampNeg p2))] μ)
  have hb2 := h.1
  replace h := h.2
  refine w_iald hX (Int32.toNatClampNeg p1) (sH2 hw) hb2 rfl dX2_fullLoss_11 (?_ : V X 12 [some (.ref w), some (.int p1), some (.int p2)] [.int (gi μ (w + 2) (Int32.toNatClampNeg p1)), .int (gi μ (w + 4) (Int32.toNatClampNeg p2))] μ)
  refine v_imul hX dX2_fullLoss_12 (?_ : V X 13 [some (.ref w), some (.int p1), some (.int p2)] [.int ((gi μ (w + 4) (Int32.toNatClampNeg p2)) * (gi μ (w + 2) (Int32.toNatClampNeg p1)))] μ)
  exact v_iret hO dX2_fullLoss_13 (hR _ _ h)
set_option maxRecDepth 20000 in
set_option maxHeartbeats 4000000 in
theorem vp_X2_fullLoss_0 (w : Nat) (p1 : Int32) (p2 : Int32) (hw : w = 3 ∨ w = 10) (μ : Mem) (hpre : pre_X2_fullLoss w p1 p2 μ) : vc_X2_fullLoss_0 w p1 p2 μ (post_X2_fullLoss w p1 p2 μ)  := by
  simp only [vc_X2_fullLoss_0, and_imp, call_eq, forall_eq, forall_const, true_and, and_true]
  unfold post_X2_fullLoss; unfold pre_X2_fullLoss at hpre; grind
theorem sp_X2_fullLoss : Sp yX2_fullLoss cX2_fullLoss 3 (some .int) 0 S_X2_fullLoss := by
  refine sp_of (by decide) (fun av μ P h => ?_) ?_
  · obtain ⟨w, p1, p2, rfl, -⟩ := h
    refine ⟨Nat.le_of_ble_eq_true rfl, fun v hv => ?_⟩
    simp only [List.mem_cons, List.not_mem_nil, or_false] at hv
    rcases hv with rfl | rfl | rfl <;> rfl
  · rintro X P hO _ μ ⟨w, p1, p2, rfl, hw, hpre, hpost⟩ hn
    exact wk_X2_fullLoss_0 hO hn w p1 p2 hw μ hpost (vp_X2_fullLoss_0 w p1 p2 hw μ hpre)
def S_X2_walkBetween : Tr := fun av μ P => ∃ (w : Nat) (p1 : Int32) (p2 : Int32), av = [.ref w, .int p1, .int p2] ∧ (w = 3 ∨ w = 10) ∧ pre_X2_walkBetween w p1 p2 μ ∧ ∀ (x : Int32) (m : Mem), post_X2_walkBetween w p1 p2 μ x m → P (some (.int x)) m
def vc_X2_walkBetween_0 (w : Nat) (p1 : Int32) (p2 : Int32)  (μ : Mem) (R : Int32 → Mem → Prop)  : Prop :=
  ((¬ p1 = ((-9)) → R ((gi μ w 10) * (if 0 ≤ (p2 - p1) then (p2 - p1) else 0 - (p2 - p1))) μ) ∧ (p1 = ((-9)) → R ((gi μ w 10) * (if 0 ≤ (p2 - 0) then (p2 - 0) else 0 - (p2 - 0))) μ))
set_option maxRecDepth 20000 in
set_option maxHeartbeats 4000000 in
theorem wk_X2_walkBetween_0 {X : XT} {P : Post} (hO : OkM X cX2_walkBetween RX2 1 (some .int) P) (hn : xn X = 3) (w : Nat) (p1 : Int32) (p2 : Int32) (hw : w = 3 ∨ w = 10)  (μ : Mem) {R : Int32 → Mem → Prop} (hR : ∀ x m, R x m → P (some (.int x)) m)    (h : vc_X2_walkBetween_0 w p1 p2  μ R ) : V X 0 [some (.ref w), some (.int p1), some (.int p2)] [] μ := by
  have hX := hO.1
  unfold vc_X2_walkBetween_0 at h
  refine v_aload_n hX dX2_walkBetween_0 rfl (?_ : V X 1 [some (.ref w), some (.int p1), some (.int p2)] [.ref w] μ)
  refine v_geti hX fk_X2_46 (sHo hw) rfl dX2_walkBetween_1 (?_ : V X 4 [some (.ref w), some (.int p1), some (.int p2)] [.int (gi μ w 10)] μ)
  refine v_iload_n hX dX2_walkBetween_4 rfl (?_ : V X 5 [some (.ref w), some (.int p1), some (.int p2)] [.int p2, .int (gi μ w 10)] μ)
  refine v_iload_n hX dX2_walkBetween_5 rfl (?_ : V X 6 [some (.ref w), some (.int p1), some (.int p2)] [.int p1, .int p2, .int (gi μ w 10)] μ)
  refine v_bipush hX (-9) dX2_walkBetween_6 rfl (?_ : V X 8 [some (.ref w), some (.int p1), some (.int p2)] [.int ((-9)), .int p1, .int p2, .int (gi μ w 10)] μ)
  refine v_icmp_ne hX 15 dX2_walkBetween_8 rfl (fun c1 => ?_) (fun c1 => ?_)
  · replace h := h.1 c1
    refine v_iload_n hX dX2_walkBetween_15 rfl (?_ : V X 16 [some (.ref w), some (.int p1), some (.int p2)] [.int p1, .int p2, .int (gi μ w 10)] μ)
    refine v_isub hX dX2_walkBetween_16 (?_ : V X 17 [some (.ref w), some (.int p1), some (.int p2)] [.int (p2 - p1), .int (gi μ w 10)] μ)
    refine v_mabs hX mk_X2_52 twAbs (by decide) (Nat.le_of_ble_eq_true rfl) dX2_walkBetween_17 (?_ : V X 20 [some (.ref w), some (.int p1), some (.int p2)] [.int (if 0 ≤ (p2 - p1) then (p2 - p1) else 0 - (p2 - p1)), .int (gi μ w 10)] μ)
    refine v_imul hX dX2_walkBetween_20 (?_ : V X 21 [some (.ref w), some (.int p1), some (.int p2)] [.int ((gi μ w 10) * (if 0 ≤ (p2 - p1) then (p2 - p1) else 0 - (p2 - p1)))] μ)
    exact v_iret hO dX2_walkBetween_21 (hR _ _ h)
  · replace h := h.2 c1
    refine v_iconst hX 0 dX2_walkBetween_11 rfl (?_ : V X 12 [some (.ref w), some (.int p1), some (.int p2)] [.int 0, .int p2, .int (gi μ w 10)] μ)
    refine v_goto hX 16 dX2_walkBetween_12 rfl (?_ : V X 16 [some (.ref w), some (.int p1), some (.int p2)] [.int 0, .int p2, .int (gi μ w 10)] μ)
    refine v_isub hX dX2_walkBetween_16 (?_ : V X 17 [some (.ref w), some (.int p1), some (.int p2)] [.int (p2 - 0), .int (gi μ w 10)] μ)
    refine v_mabs hX mk_X2_52 twAbs (by decide) (Nat.le_of_ble_eq_true rfl) dX2_walkBetween_17 (?_ : V X 20 [some (.ref w), some (.int p1), some (.int p2)] [.int (if 0 ≤ (p2 - 0) then (p2 - 0) else 0 - (p2 - 0)), .int (gi μ w 10)] μ)
    refine v_imul hX dX2_walkBetween_20 (?_ : V X 21 [some (.ref w), some (.int p1), some (.int p2)] [.int ((gi μ w 10) * (if 0 ≤ (p2 - 0) then (p2 - 0) else 0 - (p2 - 0)))] μ)
    exact v_iret hO dX2_walkBetween_21 (hR _ _ h)
set_option maxRecDepth 20000 in
set_option maxHeartbeats 4000000 in
theorem vp_X2_walkBetween_0 (w : Nat) (p1 : Int32) (p2 : Int32) (hw : w = 3 ∨ w = 10) (μ : Mem) (hpre : pre_X2_walkBetween w p1 p2 μ) : vc_X2_walkBetween_0 w p1 p2 μ (post_X2_walkBetween w p1 p2 μ)  := by
  simp only [vc_X2_walkBetween_0, and_imp, call_eq, forall_eq, forall_const, true_and, and_true]
  unfold post_X2_walkBetween absI; grind
theorem sp_X2_walkBetween : Sp yX2_walkBetween cX2_walkBetween 3 (some .int) 1 S_X2_walkBetween := by
  refine sp_of (by decide) (fun av μ P h => ?_) ?_
  · obtain ⟨w, p1, p2, rfl, -⟩ := h
    refine ⟨Nat.le_of_ble_eq_true rfl, fun v hv => ?_⟩
    simp only [List.mem_cons, List.not_mem_nil, or_false] at hv
    rcases hv with rfl | rfl | rfl <;> rfl
  · rintro X P hO _ μ ⟨w, p1, p2, rfl, hw, hpre, hpost⟩ hn
    exact wk_X2_walkBetween_0 hO hn w p1 p2 hw μ hpost (vp_X2_walkBetween_0 w p1 p2 hw μ hpre)
def S_X2_tellNothing : Tr := fun av μ P => ∃ (w : Nat), av = [.ref w] ∧ (w = 3 ∨ w = 10) ∧ pre_X2_tellNothing w μ ∧ ∀ m : Mem, post_X2_tellNothing w μ m → P none m
def vc_X2_tellNothing_0 (w : Nat)  (μ : Mem) (R : Mem → Prop)  : Prop :=
  (∀ μ1, μ1 = ui μ w 0 0 → (∀ μ3, μ3 = ui μ1 w 4 0 → (∀ μ5, μ5 = ui μ3 w 7 0 → (∀ μ7, μ7 = ui μ5 w 9 0 → (∀ μ9, μ9 = ui μ7 w 10 1 → (∀ μ11, μ11 = ui μ9 w 11 120 → R μ11))))))
set_option maxRecDepth 20000 in
set_option maxHeartbeats 4000000 in
theorem wk_X2_tellNothing_0 {X : XT} {P : Post} (hO : OkM X cX2_tellNothing RX2 0 none P) (hn : xn X = 1) (w : Nat) (hw : w = 3 ∨ w = 10)  (μ : Mem) {R : Mem → Prop} (hR : ∀ m, R m → P none m)    (h : vc_X2_tellNothing_0 w  μ R ) : V X 0 [some (.ref w)] [] μ := by
  have hX := hO.1
  unfold vc_X2_tellNothing_0 at h
  refine v_aload_n hX dX2_tellNothing_0 rfl (?_ : V X 1 [some (.ref w)] [.ref w] μ)
  refine v_iconst hX 0 dX2_tellNothing_1 rfl (?_ : V X 2 [some (.ref w)] [.int 0, .ref w] μ)
  refine w_puti hX fk_X2_33 fw_2_0 (sHo hw) rfl dX2_tellNothing_2 (fun μ1 e2 => (?_ : V X 5 [some (.ref w)] [] μ1))
  replace h := h μ1 e2
  refine v_aload_n hX dX2_tellNothing_5 rfl (?_ : V X 6 [some (.ref w)] [.ref w] μ1)
  refine v_iconst hX 0 dX2_tellNothing_6 rfl (?_ : V X 7 [some (.ref w)] [.int 0, .ref w] μ1)
  refine w_puti hX fk_X2_37 fw_2_4 (sHo hw) rfl dX2_tellNothing_7 (fun μ3 e4 => (?_ : V X 10 [some (.ref w)] [] μ3))
  replace h := h μ3 e4
  refine v_aload_n hX dX2_tellNothing_10 rfl (?_ : V X 11 [some (.ref w)] [.ref w] μ3)
  refine v_iconst hX 0 dX2_tellNothing_11 rfl (?_ : V X 12 [some (.ref w)] [.int 0, .ref w] μ3)
  refine w_puti hX fk_X2_40 fw_2_7 (sHo hw) rfl dX2_tellNothing_12 (fun μ5 e6 => (?_ : V X 15 [some (.ref w)] [] μ5))
  replace h := h μ5 e6
  refine v_aload_n hX dX2_tellNothing_15 rfl (?_ : V X 16 [some (.ref w)] [.ref w] μ5)
  refine v_iconst hX 0 dX2_tellNothing_16 rfl (?_ : V X 17 [some (.ref w)] [.int 0, .ref w] μ5)
  refine w_puti hX fk_X2_43 fw_2_9 (sHo hw) rfl dX2_tellNothing_17 (fun μ7 e8 => (?_ : V X 20 [some (.ref w)] [] μ7))
  replace h := h μ7 e8
  refine v_aload_n hX dX2_tellNothing_20 rfl (?_ : V X 21 [some (.ref w)] [.ref w] μ7)
  refine v_iconst hX 1 dX2_tellNothing_21 rfl (?_ : V X 22 [some (.ref w)] [.int 1, .ref w] μ7)
  refine w_puti hX fk_X2_46 fw_2_10 (sHo hw) rfl dX2_tellNothing_22 (fun μ9 e10 => (?_ : V X 25 [some (.ref w)] [] μ9))
  replace h := h μ9 e10
  refine v_aload_n hX dX2_tellNothing_25 rfl (?_ : V X 26 [some (.ref w)] [.ref w] μ9)
  refine v_bipush hX 120 dX2_tellNothing_26 rfl (?_ : V X 28 [some (.ref w)] [.int 120, .ref w] μ9)
  refine w_puti hX fk_X2_49 fw_2_11 (sHo hw) rfl dX2_tellNothing_28 (fun μ11 e12 => (?_ : V X 31 [some (.ref w)] [] μ11))
  replace h := h μ11 e12
  exact v_vret hO dX2_tellNothing_31 (hR _ h)
set_option maxRecDepth 20000 in
set_option maxHeartbeats 4000000 in
theorem vp_X2_tellNothing_0 (w : Nat) (hw : w = 3 ∨ w = 10) (μ : Mem) (hpre : pre_X2_tellNothing w μ) : vc_X2_tellNothing_0 w μ (post_X2_tellNothing w μ)  := by
  simp only [vc_X2_tellNothing_0, and_imp, call_eq, forall_eq, forall_const, true_and, and_true]
  rfl
theorem sp_X2_tellNothing : Sp yX2_tellNothing cX2_tellNothing 1 none 0 S_X2_tellNothing := by
  refine sp_of (by decide) (fun av μ P h => ?_) ?_
  · obtain ⟨w, rfl, -⟩ := h
    refine ⟨Nat.le_of_ble_eq_true rfl, fun v hv => ?_⟩
    simp only [List.mem_cons, List.not_mem_nil, or_false] at hv
    subst hv; rfl
  · rintro X P hO _ μ ⟨w, rfl, hw, hpre, hpost⟩ hn
    exact wk_X2_tellNothing_0 hO hn w hw μ hpost (vp_X2_tellNothing_0 w hw μ hpre)
def S_X8_lossOf : Tr := fun av μ P => ∃ (p1 : Int32) (p2 : Int32), av = [.int p1, .int p2] ∧ pre_X8_lossOf p1 p2 μ ∧ ∀ (x : Int32) (m : Mem), post_X8_lossOf p1 p2 μ x m → P (some (.int x)) m
def vc_X8_lossOf_0 (p1 : Int32) (p2 : Int32)  (μ : Mem) (R : Int32 → Mem → Prop)  : Prop :=
  ((p2 = 0 → R p1 μ) ∧ (¬ p2 = 0 → R (p1 / 2) μ))
set_option maxRecDepth 20000 in
set_option maxHeartbeats 4000000 in
theorem wk_X8_lossOf_0 {X : XT} {P : Post} (hO : OkM X cX8_lossOf RX8 0 (some .int) P) (hn : xn X = 2) (p1 : Int32) (p2 : Int32)   (μ : Mem) {R : Int32 → Mem → Prop} (hR : ∀ x m, R x m → P (some (.int x)) m)    (h : vc_X8_lossOf_0 p1 p2  μ R ) : V X 0 [some (.int p1), some (.int p2)] [] μ := by
  have hX := hO.1
  unfold vc_X8_lossOf_0 at h
  refine v_iload_n hX dX8_lossOf_0 rfl (?_ : V X 1 [some (.int p1), some (.int p2)] [.int p2] μ)
  refine v_if_eq hX 10 dX8_lossOf_1 rfl (fun c1 => ?_) (fun c1 => ?_)
  · replace h := h.1 c1
    refine v_iload_n hX dX8_lossOf_10 rfl (?_ : V X 11 [some (.int p1), some (.int p2)] [.int p1] μ)
    exact v_iret hO dX8_lossOf_11 (hR _ _ h)
  · replace h := h.2 c1
    refine v_iload_n hX dX8_lossOf_4 rfl (?_ : V X 5 [some (.int p1), some (.int p2)] [.int p1] μ)
    refine v_iconst hX 2 dX8_lossOf_5 rfl (?_ : V X 6 [some (.int p1), some (.int p2)] [.int 2, .int p1] μ)
    refine v_idiv hX dX8_lossOf_6 (by decide) (?_ : V X 7 [some (.int p1), some (.int p2)] [.int (p1 / 2)] μ)
    refine v_goto hX 11 dX8_lossOf_7 rfl (?_ : V X 11 [some (.int p1), some (.int p2)] [.int (p1 / 2)] μ)
    exact v_iret hO dX8_lossOf_11 (hR _ _ h)
set_option maxRecDepth 20000 in
set_option maxHeartbeats 4000000 in
theorem vp_X8_lossOf_0 (p1 : Int32) (p2 : Int32)  (μ : Mem) (hpre : pre_X8_lossOf p1 p2 μ) : vc_X8_lossOf_0 p1 p2 μ (post_X8_lossOf p1 p2 μ)  := by
  simp only [vc_X8_lossOf_0, and_imp, call_eq, forall_eq, forall_const, true_and, and_true]
  unfold post_X8_lossOf; grind
theorem sp_X8_lossOf : Sp yX8_lossOf cX8_lossOf 2 (some .int) 0 S_X8_lossOf := by
  refine sp_of (by decide) (fun av μ P h => ?_) ?_
  · obtain ⟨p1, p2, rfl, -⟩ := h
    refine ⟨Nat.le_of_ble_eq_true rfl, fun v hv => ?_⟩
    simp only [List.mem_cons, List.not_mem_nil, or_false] at hv
    rcases hv with rfl | rfl <;> rfl
  · rintro X P hO _ μ ⟨p1, p2, rfl, hpre, hpost⟩ hn
    exact wk_X8_lossOf_0 hO hn p1 p2  μ hpost (vp_X8_lossOf_0 p1 p2  μ hpre)
def S_X7_isSolved : Tr := fun av μ P => ∃ (p1 : Int32), av = [.ref 17, .int p1] ∧ pre_X7_isSolved p1 μ ∧ ∀ (x : Int32) (m : Mem), post_X7_isSolved p1 μ x m → P (some (.int x)) m
def vc_X7_isSolved_0 (p1 : Int32)  (μ : Mem) (R : Int32 → Mem → Prop)  : Prop :=
  ((¬ (((gi μ 17 3) >>> (p1 &&& 31)) &&& 1) = 1 → R 0 μ) ∧ ((((gi μ 17 3) >>> (p1 &&& 31)) &&& 1) = 1 → R 1 μ))
set_option maxRecDepth 20000 in
set_option maxHeartbeats 4000000 in
theorem wk_X7_isSolved_0 {X : XT} {P : Post} (hO : OkM X cX7_isSolved RX7 0 (some .boolean) P) (hn : xn X = 2) (p1 : Int32)   (μ : Mem) {R : Int32 → Mem → Prop} (hR : ∀ x m, R x m → P (some (.int x)) m)    (h : vc_X7_isSolved_0 p1  μ R ) : V X 0 [some (.ref 17), some (.int p1)] [] μ := by
  have hX := hO.1
  unfold vc_X7_isSolved_0 at h
  refine v_aload_n hX dX7_isSolved_0 rfl (?_ : V X 1 [some (.ref 17), some (.int p1)] [.ref 17] μ)
  refine v_geti hX fk_X7_28 sh_17 rfl dX7_isSolved_1 (?_ : V X 4 [some (.ref 17), some (.int p1)] [.int (gi μ 17 3)] μ)
  refine v_iload_n hX dX7_isSolved_4 rfl (?_ : V X 5 [some (.ref 17), some (.int p1)] [.int p1, .int (gi μ 17 3)] μ)
  refine v_ishr hX dX7_isSolved_5 (?_ : V X 6 [some (.ref 17), some (.int p1)] [.int ((gi μ 17 3) >>> (p1 &&& 31))] μ)
  refine v_iconst hX 1 dX7_isSolved_6 rfl (?_ : V X 7 [some (.ref 17), some (.int p1)] [.int 1, .int ((gi μ 17 3) >>> (p1 &&& 31))] μ)
  refine v_iand hX dX7_isSolved_7 (?_ : V X 8 [some (.ref 17), some (.int p1)] [.int (((gi μ 17 3) >>> (p1 &&& 31)) &&& 1)] μ)
  refine v_iconst hX 1 dX7_isSolved_8 rfl (?_ : V X 9 [some (.ref 17), some (.int p1)] [.int 1, .int (((gi μ 17 3) >>> (p1 &&& 31)) &&& 1)] μ)
  refine v_icmp_ne hX 16 dX7_isSolved_9 rfl (fun c1 => ?_) (fun c1 => ?_)
  · replace h := h.1 c1
    refine v_iconst hX 0 dX7_isSolved_16 rfl (?_ : V X 17 [some (.ref 17), some (.int p1)] [.int 0] μ)
    exact v_zret hO dX7_isSolved_17 (by decide) (hR _ _ h)
  · replace h := h.2 c1
    refine v_iconst hX 1 dX7_isSolved_12 rfl (?_ : V X 13 [some (.ref 17), some (.int p1)] [.int 1] μ)
    refine v_goto hX 17 dX7_isSolved_13 rfl (?_ : V X 17 [some (.ref 17), some (.int p1)] [.int 1] μ)
    exact v_zret hO dX7_isSolved_17 (by decide) (hR _ _ h)
set_option maxRecDepth 20000 in
set_option maxHeartbeats 4000000 in
theorem vp_X7_isSolved_0 (p1 : Int32)  (μ : Mem) (hpre : pre_X7_isSolved p1 μ) : vc_X7_isSolved_0 p1 μ (post_X7_isSolved p1 μ)  := by
  simp only [vc_X7_isSolved_0, and_imp, call_eq, forall_eq, forall_const, true_and, and_true]
  unfold post_X7_isSolved; grind
theorem sp_X7_isSolved : Sp yX7_isSolved cX7_isSolved 2 (some .boolean) 0 S_X7_isSolved := by
  refine sp_of (by decide) (fun av μ P h => ?_) ?_
  · obtain ⟨p1, rfl, -⟩ := h
    refine ⟨Nat.le_of_ble_eq_true rfl, fun v hv => ?_⟩
    simp only [List.mem_cons, List.not_mem_nil, or_false] at hv
    rcases hv with rfl | rfl <;> rfl
  · rintro X P hO _ μ ⟨p1, rfl, hpre, hpost⟩ hn
    exact wk_X7_isSolved_0 hO hn p1  μ hpost (vp_X7_isSolved_0 p1  μ hpre)
def S_X5_lose : Tr := fun av μ P => av = [.ref 20] ∧ pre_X5_lose  μ ∧ ∀ m : Mem, post_X5_lose  μ m → P none m
def vc_X5_lose_0   (μ : Mem) (R : Mem → Prop)  : Prop :=
  (∀ μ1, μ1 = ui μ 20 2 0 → R μ1)
set_option maxRecDepth 20000 in
set_option maxHeartbeats 4000000 in
theorem wk_X5_lose_0 {X : XT} {P : Post} (hO : OkM X cX5_lose RX5 0 none P) (hn : xn X = 1)    (μ : Mem) {R : Mem → Prop} (hR : ∀ m, R m → P none m)    (h : vc_X5_lose_0   μ R ) : V X 0 [some (.ref 20)] [] μ := by
  have hX := hO.1
  unfold vc_X5_lose_0 at h
  refine v_aload_n hX dX5_lose_0 rfl (?_ : V X 1 [some (.ref 20)] [.ref 20] μ)
  refine v_iconst hX 0 dX5_lose_1 rfl (?_ : V X 2 [some (.ref 20)] [.int 0, .ref 20] μ)
  refine w_puti hX fk_X5_22 fw_5_2 sh_20 rfl dX5_lose_2 (fun μ1 e2 => (?_ : V X 5 [some (.ref 20)] [] μ1))
  replace h := h μ1 e2
  exact v_vret hO dX5_lose_5 (hR _ h)
set_option maxRecDepth 20000 in
set_option maxHeartbeats 4000000 in
theorem vp_X5_lose_0   (μ : Mem) (hpre : pre_X5_lose  μ) : vc_X5_lose_0  μ (post_X5_lose  μ)  := by
  simp only [vc_X5_lose_0, and_imp, call_eq, forall_eq, forall_const, true_and, and_true]
  rfl
theorem sp_X5_lose : Sp yX5_lose cX5_lose 1 none 0 S_X5_lose := by
  refine sp_of (by decide) (fun av μ P h => ?_) ?_
  · obtain ⟨rfl, -⟩ := h
    refine ⟨Nat.le_of_ble_eq_true rfl, fun v hv => ?_⟩
    simp only [List.mem_cons, List.not_mem_nil, or_false] at hv
    subst hv; rfl
  · rintro X P hO _ μ ⟨rfl, hpre, hpost⟩ hn
    exact wk_X5_lose_0 hO hn   μ hpost (vp_X5_lose_0   μ hpre)
def S_X6_isDigit : Tr := fun av μ P => ∃ (p1 : Int32), av = [.int p1] ∧ pre_X6_isDigit p1 μ ∧ ∀ (x : Int32) (m : Mem), post_X6_isDigit p1 μ x m → P (some (.int x)) m
def vc_X6_isDigit_0 (p1 : Int32)  (μ : Mem) (R : Int32 → Mem → Prop)  : Prop :=
  ((p1 < 48 → R 0 μ) ∧ (¬ p1 < 48 → ((57 < p1 → R 0 μ) ∧ (¬ 57 < p1 → R 1 μ))))
set_option maxRecDepth 20000 in
set_option maxHeartbeats 4000000 in
theorem wk_X6_isDigit_0 {X : XT} {P : Post} (hO : OkM X cX6_isDigit RX6 0 (some .boolean) P) (hn : xn X = 1) (p1 : Int32)   (μ : Mem) {R : Int32 → Mem → Prop} (hR : ∀ x m, R x m → P (some (.int x)) m)    (h : vc_X6_isDigit_0 p1  μ R ) : V X 0 [some (.int p1)] [] μ := by
  have hX := hO.1
  unfold vc_X6_isDigit_0 at h
  refine v_iload_n hX dX6_isDigit_0 rfl (?_ : V X 1 [some (.int p1)] [.int p1] μ)
  refine v_bipush hX 48 dX6_isDigit_1 rfl (?_ : V X 3 [some (.int p1)] [.int 48, .int p1] μ)
  refine v_icmp_lt hX 16 dX6_isDigit_3 rfl (fun c1 => ?_) (fun c1 => ?_)
  · replace h := h.1 c1
    refine v_iconst hX 0 dX6_isDigit_16 rfl (?_ : V X 17 [some (.int p1)] [.int 0] μ)
    exact v_zret hO dX6_isDigit_17 (by decide) (hR _ _ h)
  · replace h := h.2 c1
    refine v_iload_n hX dX6_isDigit_6 rfl (?_ : V X 7 [some (.int p1)] [.int p1] μ)
    refine v_bipush hX 57 dX6_isDigit_7 rfl (?_ : V X 9 [some (.int p1)] [.int 57, .int p1] μ)
    refine v_icmp_gt hX 16 dX6_isDigit_9 rfl (fun c2 => ?_) (fun c2 => ?_)
    · replace h := h.1 c2
      refine v_iconst hX 0 dX6_isDigit_16 rfl (?_ : V X 17 [some (.int p1)] [.int 0] μ)
      exact v_zret hO dX6_isDigit_17 (by decide) (hR _ _ h)
    · replace h := h.2 c2
      refine v_iconst hX 1 dX6_isDigit_12 rfl (?_ : V X 13 [some (.int p1)] [.int 1] μ)
      refine v_goto hX 17 dX6_isDigit_13 rfl (?_ : V X 17 [some (.int p1)] [.int 1] μ)
      exact v_zret hO dX6_isDigit_17 (by decide) (hR _ _ h)
set_option maxRecDepth 20000 in
set_option maxHeartbeats 4000000 in
theorem vp_X6_isDigit_0 (p1 : Int32)  (μ : Mem) (hpre : pre_X6_isDigit p1 μ) : vc_X6_isDigit_0 p1 μ (post_X6_isDigit p1 μ)  := by
  simp only [vc_X6_isDigit_0, and_imp, call_eq, forall_eq, forall_const, true_and, and_true]
  unfold post_X6_isDigit; grind
theorem sp_X6_isDigit : Sp yX6_isDigit cX6_isDigit 1 (some .boolean) 0 S_X6_isDigit := by
  refine sp_of (by decide) (fun av μ P h => ?_) ?_
  · obtain ⟨p1, rfl, -⟩ := h
    refine ⟨Nat.le_of_ble_eq_true rfl, fun v hv => ?_⟩
    simp only [List.mem_cons, List.not_mem_nil, or_false] at hv
    subst hv; rfl
  · rintro X P hO _ μ ⟨p1, rfl, hpre, hpost⟩ hn
    exact wk_X6_isDigit_0 hO hn p1  μ hpost (vp_X6_isDigit_0 p1  μ hpre)
def S_X6_failsAt : Tr := fun av μ P => ∃ (p1 : Int32), av = [.ref 1, .int p1] ∧ pre_X6_failsAt p1 μ ∧ ∀ (x : Int32) (m : Mem), post_X6_failsAt p1 μ x m → P (some (.int x)) m
def vc_X6_failsAt_0 (p1 : Int32)  (μ : Mem) (R : Int32 → Mem → Prop)  : Prop :=
  (∀ μ1, μ1 = ui μ 1 2 p1 → R 0 μ1)
set_option maxRecDepth 20000 in
set_option maxHeartbeats 4000000 in
theorem wk_X6_failsAt_0 {X : XT} {P : Post} (hO : OkM X cX6_failsAt RX6 0 (some .boolean) P) (hn : xn X = 2) (p1 : Int32)   (μ : Mem) {R : Int32 → Mem → Prop} (hR : ∀ x m, R x m → P (some (.int x)) m)    (h : vc_X6_failsAt_0 p1  μ R ) : V X 0 [some (.ref 1), some (.int p1)] [] μ := by
  have hX := hO.1
  unfold vc_X6_failsAt_0 at h
  refine v_aload_n hX dX6_failsAt_0 rfl (?_ : V X 1 [some (.ref 1), some (.int p1)] [.ref 1] μ)
  refine v_iload_n hX dX6_failsAt_1 rfl (?_ : V X 2 [some (.ref 1), some (.int p1)] [.int p1, .ref 1] μ)
  refine w_puti hX fk_X6_19 fw_6_2 sh_1 rfl dX6_failsAt_2 (fun μ1 e2 => (?_ : V X 5 [some (.ref 1), some (.int p1)] [] μ1))
  replace h := h μ1 e2
  refine v_iconst hX 0 dX6_failsAt_5 rfl (?_ : V X 6 [some (.ref 1), some (.int p1)] [.int 0] μ1)
  exact v_zret hO dX6_failsAt_6 (by decide) (hR _ _ h)
set_option maxRecDepth 20000 in
set_option maxHeartbeats 4000000 in
theorem vp_X6_failsAt_0 (p1 : Int32)  (μ : Mem) (hpre : pre_X6_failsAt p1 μ) : vc_X6_failsAt_0 p1 μ (post_X6_failsAt p1 μ)  := by
  simp only [vc_X6_failsAt_0, and_imp, call_eq, forall_eq, forall_const, true_and, and_true]
  exact ⟨rfl, rfl⟩
theorem sp_X6_failsAt : Sp yX6_failsAt cX6_failsAt 2 (some .boolean) 0 S_X6_failsAt := by
  refine sp_of (by decide) (fun av μ P h => ?_) ?_
  · obtain ⟨p1, rfl, -⟩ := h
    refine ⟨Nat.le_of_ble_eq_true rfl, fun v hv => ?_⟩
    simp only [List.mem_cons, List.not_mem_nil, or_false] at hv
    rcases hv with rfl | rfl <;> rfl
  · rintro X P hO _ μ ⟨p1, rfl, hpre, hpost⟩ hn
    exact wk_X6_failsAt_0 hO hn p1  μ hpost (vp_X6_failsAt_0 p1  μ hpre)
def S_X1_indexOf : Tr := fun av μ P => ∃ (p1 : Int32) (p2 : Int32), av = [.int p1, .int p2] ∧ pre_X1_indexOf p1 p2 μ ∧ ∀ (x : Int32) (m : Mem), post_X1_indexOf p1 p2 μ x m → P (some (.int x)) m
def vc_X1_indexOf_0 (p1 : Int32) (p2 : Int32)  (μ : Mem) (R : Int32 → Mem → Prop)  : Prop :=
  R ((p1 * 6) + p2) μ
set_option maxRecDepth 20000 in
set_option maxHeartbeats 4000000 in
theorem wk_X1_indexOf_0 {X : XT} {P : Post} (hO : OkM X cX1_indexOf RX1 0 (some .int) P) (hn : xn X = 2) (p1 : Int32) (p2 : Int32)   (μ : Mem) {R : Int32 → Mem → Prop} (hR : ∀ x m, R x m → P (some (.int x)) m)    (h : vc_X1_indexOf_0 p1 p2  μ R ) : V X 0 [some (.int p1), some (.int p2)] [] μ := by
  have hX := hO.1
  unfold vc_X1_indexOf_0 at h
  refine v_iload_n hX dX1_indexOf_0 rfl (?_ : V X 1 [some (.int p1), some (.int p2)] [.int p1] μ)
  refine v_bipush hX 6 dX1_indexOf_1 rfl (?_ : V X 3 [some (.int p1), some (.int p2)] [.int 6, .int p1] μ)
  refine v_imul hX dX1_indexOf_3 (?_ : V X 4 [some (.int p1), some (.int p2)] [.int (p1 * 6)] μ)
  refine v_iload_n hX dX1_indexOf_4 rfl (?_ : V X 5 [some (.int p1), some (.int p2)] [.int p2, .int (p1 * 6)] μ)
  refine v_iadd hX dX1_indexOf_5 (?_ : V X 6 [some (.int p1), some (.int p2)] [.int ((p1 * 6) + p2)] μ)
  exact v_iret hO dX1_indexOf_6 (hR _ _ h)
set_option maxRecDepth 20000 in
set_option maxHeartbeats 4000000 in
theorem vp_X1_indexOf_0 (p1 : Int32) (p2 : Int32)  (μ : Mem) (hpre : pre_X1_indexOf p1 p2 μ) : vc_X1_indexOf_0 p1 p2 μ (post_X1_indexOf p1 p2 μ)  := by
  simp only [vc_X1_indexOf_0, and_imp, call_eq, forall_eq, forall_const, true_and, and_true]
  exact ⟨rfl, rfl⟩
theorem sp_X1_indexOf : Sp yX1_indexOf cX1_indexOf 2 (some .int) 0 S_X1_indexOf := by
  refine sp_of (by decide) (fun av μ P h => ?_) ?_
  · obtain ⟨p1, p2, rfl, -⟩ := h
    refine ⟨Nat.le_of_ble_eq_true rfl, fun v hv => ?_⟩
    simp only [List.mem_cons, List.not_mem_nil, or_false] at hv
    rcases hv with rfl | rfl <;> rfl
  · rintro X P hO _ μ ⟨p1, p2, rfl, hpre, hpost⟩ hn
    exact wk_X1_indexOf_0 hO hn p1 p2  μ hpost (vp_X1_indexOf_0 p1 p2  μ hpre)
def S_J6_bitCount_0f7a4 : Tr := fun av μ P => ∃ (p1 : Int32), av = [.int p1] ∧ pre_J6_bitCount_0f7a4 p1 μ ∧ ∀ (x : Int32) (m : Mem), post_J6_bitCount_0f7a4 p1 μ x m → P (some (.int x)) m
def vc_J6_bitCount_0f7a4_0 (p1 : Int32)  (μ : Mem) (R : Int32 → Mem → Prop)  : Prop :=
  (∀ y1 : Int32, y1 = p1 - (((Int32.toUInt32 p1 >>> (Int32.toUInt32 1 &&& Int32.toUInt32 31)).toInt32) &&& 1431655765) → (∀ y3 : Int32, y3 = (y1 &&& 858993459) + (((Int32.toUInt32 y1 >>> (Int32.toUInt32 2 &&& Int32.toUInt32 31)).toInt32) &&& 858993459) → (∀ y5 : Int32, y5 = (y3 + ((Int32.toUInt32 y3 >>> (Int32.toUInt32 4 &&& Int32.toUInt32 31)).toInt32)) &&& 252645135 → (∀ y7 : Int32, y7 = y5 + ((Int32.toUInt32 y5 >>> (Int32.toUInt32 8 &&& Int32.toUInt32 31)).toInt32) → (∀ y9 : Int32, y9 = y7 + ((Int32.toUInt32 y7 >>> (Int32.toUInt32 16 &&& Int32.toUInt32 31)).toInt32) → R (y9 &&& 63) μ)))))
set_option maxRecDepth 20000 in
set_option maxHeartbeats 4000000 in
theorem wk_J6_bitCount_0f7a4_0 {X : XT} {P : Post} (hO : OkM X cJ6_bitCount_0f7a4 RJ6 0 (some .int) P) (hn : xn X = 1) (p1 : Int32)   (μ : Mem) {R : Int32 → Mem → Prop} (hR : ∀ x m, R x m → P (some (.int x)) m)    (h : vc_J6_bitCount_0f7a4_0 p1  μ R ) : V X 0 [some (.int p1)] [] μ := by
  have hX := hO.1
  unfold vc_J6_bitCount_0f7a4_0 at h
  refine v_iload_n hX dJ6_bitCount_0f7a4_0 rfl (?_ : V X 1 [some (.int p1)] [.int p1] μ)
  refine v_iload_n hX dJ6_bitCount_0f7a4_1 rfl (?_ : V X 2 [some (.int p1)] [.int p1, .int p1] μ)
  refine v_iconst hX 1 dJ6_bitCount_0f7a4_2 rfl (?_ : V X 3 [some (.int p1)] [.int 1, .int p1, .int p1] μ)
  refine v_iushr hX dJ6_bitCount_0f7a4_3 (?_ : V X 4 [some (.int p1)] [.int ((Int32.toUInt32 p1 >>> (Int32.toUInt32 1 &&& Int32.toUInt32 31)).toInt32), .int p1] μ)
  refine v_ldcw hX 1431655765 dJ6_bitCount_0f7a4_4 kk_J6_265 (?_ : V X 7 [some (.int p1)] [.int 1431655765, .int ((Int32.toUInt32 p1 >>> (Int32.toUInt32 1 &&& Int32.toUInt32 31)).toInt32), .int p1] μ)
  refine v_iand hX dJ6_bitCount_0f7a4_7 (?_ : V X 8 [some (.int p1)] [.int (((Int32.toUInt32 p1 >>> (Int32.toUInt32 1 &&& Int32.toUInt32 31)).toInt32) &&& 1431655765), .int p1] μ)
  refine v_isub hX dJ6_bitCount_0f7a4_8 (?_ : V X 9 [some (.int p1)] [.int (p1 - (((Int32.toUInt32 p1 >>> (Int32.toUInt32 1 &&& Int32.toUInt32 31)).toInt32) &&& 1431655765))] μ)
  refine w_istore_n hX dJ6_bitCount_0f7a4_9 (by rw [hn]; decide) (fun y1 e2 => (?_ : V X 10 [some (.int y1)] [] μ))
  replace h := h y1 e2
  refine v_iload_n hX dJ6_bitCount_0f7a4_10 rfl (?_ : V X 11 [some (.int y1)] [.int y1] μ)
  refine v_ldcw hX 858993459 dJ6_bitCount_0f7a4_11 kk_J6_266 (?_ : V X 14 [some (.int y1)] [.int 858993459, .int y1] μ)
  refine v_iand hX dJ6_bitCount_0f7a4_14 (?_ : V X 15 [some (.int y1)] [.int (y1 &&& 858993459)] μ)
  refine v_iload_n hX dJ6_bitCount_0f7a4_15 rfl (?_ : V X 16 [some (.int y1)] [.int y1, .int (y1 &&& 858993459)] μ)
  refine v_iconst hX 2 dJ6_bitCount_0f7a4_16 rfl (?_ : V X 17 [some (.int y1)] [.int 2, .int y1, .int (y1 &&& 858993459)] μ)
  refine v_iushr hX dJ6_bitCount_0f7a4_17 (?_ : V X 18 [some (.int y1)] [.int ((Int32.toUInt32 y1 >>> (Int32.toUInt32 2 &&& Int32.toUInt32 31)).toInt32), .int (y1 &&& 858993459)] μ)
  refine v_ldcw hX 858993459 dJ6_bitCount_0f7a4_18 kk_J6_266 (?_ : V X 21 [some (.int y1)] [.int 858993459, .int ((Int32.toUInt32 y1 >>> (Int32.toUInt32 2 &&& Int32.toUInt32 31)).toInt32), .int (y1 &&& 858993459)] μ)
  refine v_iand hX dJ6_bitCount_0f7a4_21 (?_ : V X 22 [some (.int y1)] [.int (((Int32.toUInt32 y1 >>> (Int32.toUInt32 2 &&& Int32.toUInt32 31)).toInt32) &&& 858993459), .int (y1 &&& 858993459)] μ)
  refine v_iadd hX dJ6_bitCount_0f7a4_22 (?_ : V X 23 [some (.int y1)] [.int ((y1 &&& 858993459) + (((Int32.toUInt32 y1 >>> (Int32.toUInt32 2 &&& Int32.toUInt32 31)).toInt32) &&& 858993459))] μ)
  refine w_istore_n hX dJ6_bitCount_0f7a4_23 (by rw [hn]; decide) (fun y3 e4 => (?_ : V X 24 [some (.int y3)] [] μ))
  replace h := h y3 e4
  refine v_iload_n hX dJ6_bitCount_0f7a4_24 rfl (?_ : V X 25 [some (.int y3)] [.int y3] μ)
  refine v_iload_n hX dJ6_bitCount_0f7a4_25 rfl (?_ : V X 26 [some (.int y3)] [.int y3, .int y3] μ)
  refine v_iconst hX 4 dJ6_bitCount_0f7a4_26 rfl (?_ : V X 27 [some (.int y3)] [.int 4, .int y3, .int y3] μ)
  refine v_iushr hX dJ6_bitCount_0f7a4_27 (?_ : V X 28 [some (.int y3)] [.int ((Int32.toUInt32 y3 >>> (Int32.toUInt32 4 &&& Int32.toUInt32 31)).toInt32), .int y3] μ)
  refine v_iadd hX dJ6_bitCount_0f7a4_28 (?_ : V X 29 [some (.int y3)] [.int (y3 + ((Int32.toUInt32 y3 >>> (Int32.toUInt32 4 &&& Int32.toUInt32 31)).toInt32))] μ)
  refine v_ldcw hX 252645135 dJ6_bitCount_0f7a4_29 kk_J6_267 (?_ : V X 32 [some (.int y3)] [.int 252645135, .int (y3 + ((Int32.toUInt32 y3 >>> (Int32.toUInt32 4 &&& Int32.toUInt32 31)).toInt32))] μ)
  refine v_iand hX dJ6_bitCount_0f7a4_32 (?_ : V X 33 [some (.int y3)] [.int ((y3 + ((Int32.toUInt32 y3 >>> (Int32.toUInt32 4 &&& Int32.toUInt32 31)).toInt32)) &&& 252645135)] μ)
  refine w_istore_n hX dJ6_bitCount_0f7a4_33 (by rw [hn]; decide) (fun y5 e6 => (?_ : V X 34 [some (.int y5)] [] μ))
  replace h := h y5 e6
  refine v_iload_n hX dJ6_bitCount_0f7a4_34 rfl (?_ : V X 35 [some (.int y5)] [.int y5] μ)
  refine v_iload_n hX dJ6_bitCount_0f7a4_35 rfl (?_ : V X 36 [some (.int y5)] [.int y5, .int y5] μ)
  refine v_bipush hX 8 dJ6_bitCount_0f7a4_36 rfl (?_ : V X 38 [some (.int y5)] [.int 8, .int y5, .int y5] μ)
  refine v_iushr hX dJ6_bitCount_0f7a4_38 (?_ : V X 39 [some (.int y5)] [.int ((Int32.toUInt32 y5 >>> (Int32.toUInt32 8 &&& Int32.toUInt32 31)).toInt32), .int y5] μ)
  refine v_iadd hX dJ6_bitCount_0f7a4_39 (?_ : V X 40 [some (.int y5)] [.int (y5 + ((Int32.toUInt32 y5 >>> (Int32.toUInt32 8 &&& Int32.toUInt32 31)).toInt32))] μ)
  refine w_istore_n hX dJ6_bitCount_0f7a4_40 (by rw [hn]; decide) (fun y7 e8 => (?_ : V X 41 [some (.int y7)] [] μ))
  replace h := h y7 e8
  refine v_iload_n hX dJ6_bitCount_0f7a4_41 rfl (?_ : V X 42 [some (.int y7)] [.int y7] μ)
  refine v_iload_n hX dJ6_bitCount_0f7a4_42 rfl (?_ : V X 43 [some (.int y7)] [.int y7, .int y7] μ)
  refine v_bipush hX 16 dJ6_bitCount_0f7a4_43 rfl (?_ : V X 45 [some (.int y7)] [.int 16, .int y7, .int y7] μ)
  refine v_iushr hX dJ6_bitCount_0f7a4_45 (?_ : V X 46 [some (.int y7)] [.int ((Int32.toUInt32 y7 >>> (Int32.toUInt32 16 &&& Int32.toUInt32 31)).toInt32), .int y7] μ)
  refine v_iadd hX dJ6_bitCount_0f7a4_46 (?_ : V X 47 [some (.int y7)] [.int (y7 + ((Int32.toUInt32 y7 >>> (Int32.toUInt32 16 &&& Int32.toUInt32 31)).toInt32))] μ)
  refine w_istore_n hX dJ6_bitCount_0f7a4_47 (by rw [hn]; decide) (fun y9 e10 => (?_ : V X 48 [some (.int y9)] [] μ))
  replace h := h y9 e10
  refine v_iload_n hX dJ6_bitCount_0f7a4_48 rfl (?_ : V X 49 [some (.int y9)] [.int y9] μ)
  refine v_bipush hX 63 dJ6_bitCount_0f7a4_49 rfl (?_ : V X 51 [some (.int y9)] [.int 63, .int y9] μ)
  refine v_iand hX dJ6_bitCount_0f7a4_51 (?_ : V X 52 [some (.int y9)] [.int (y9 &&& 63)] μ)
  exact v_iret hO dJ6_bitCount_0f7a4_52 (hR _ _ h)
set_option maxRecDepth 20000 in
set_option maxHeartbeats 4000000 in
theorem vp_J6_bitCount_0f7a4_0 (p1 : Int32)  (μ : Mem) (hpre : pre_J6_bitCount_0f7a4 p1 μ) : vc_J6_bitCount_0f7a4_0 p1 μ (post_J6_bitCount_0f7a4 p1 μ)  := by
  simp only [vc_J6_bitCount_0f7a4_0, and_imp, call_eq, forall_eq, forall_const, true_and, and_true]
  exact ⟨rfl, rfl⟩
theorem sp_J6_bitCount_0f7a4 : Sp yJ6_bitCount_0f7a4 cJ6_bitCount_0f7a4 1 (some .int) 0 S_J6_bitCount_0f7a4 := by
  refine sp_of (by decide) (fun av μ P h => ?_) ?_
  · obtain ⟨p1, rfl, -⟩ := h
    refine ⟨Nat.le_of_ble_eq_true rfl, fun v hv => ?_⟩
    simp only [List.mem_cons, List.not_mem_nil, or_false] at hv
    subst hv; rfl
  · rintro X P hO _ μ ⟨p1, rfl, hpre, hpost⟩ hn
    exact wk_J6_bitCount_0f7a4_0 hO hn p1  μ hpost (vp_J6_bitCount_0f7a4_0 p1  μ hpre)
def S_J7_fill_53178 : Tr := fun av μ P => ∃ (a : Nat) (na : Nat) (p1 : Int32), av = [.ref a, .int p1] ∧ (isRow a na) ∧ pre_J7_fill_53178 a na p1 μ ∧ ∀ m : Mem, post_J7_fill_53178 a na p1 μ m → P none m
def vc_J7_fill_53178_0 (a : Nat) (na : Nat) (p1 : Int32)  (μ : Mem) (R : Mem → Prop) (J5 : Int32 → Int32 → Mem → Prop) : Prop :=
  J5 0 (Int32.ofNat na) μ
set_option maxRecDepth 20000 in
set_option maxHeartbeats 4000000 in
theorem wk_J7_fill_53178_0 {X : XT} {P : Post} (hO : OkM X cJ7_fill_53178 RJ7 0 none P) (hn : xn X = 4) (a : Nat) (na : Nat) (p1 : Int32) (ha : isRow a na)  (μ : Mem) {R : Mem → Prop} (hR : ∀ m, R m → P none m) {J5 : Int32 → Int32 → Mem → Prop} (hJ5 : ∀ (l2 : Int32) (l3 : Int32) (m : Mem), J5 l2 l3 m → V X 5 [some (.ref a), some (.int p1), some (.int l2), some (.int l3)] [] m)  (h : vc_J7_fill_53178_0 a na p1  μ R J5) : V X 0 [some (.ref a), some (.int p1), none, none] [] μ := by
  have hX := hO.1
  unfold vc_J7_fill_53178_0 at h
  refine v_iconst hX 0 dJ7_fill_53178_0 rfl (?_ : V X 1 [some (.ref a), some (.int p1), none, none] [.int 0] μ)
  refine v_istore_n hX dJ7_fill_53178_1 (by rw [hn]; decide) (?_ : V X 2 [some (.ref a), some (.int p1), some (.int 0), none] [] μ)
  refine v_aload_n hX dJ7_fill_53178_2 rfl (?_ : V X 3 [some (.ref a), some (.int p1), some (.int 0), none] [.ref a] μ)
  refine v_alen hX (Int32.ofNat na) ha.1 ha.2 rfl dJ7_fill_53178_3 (?_ : V X 4 [some (.ref a), some (.int p1), some (.int 0), none] [.int (Int32.ofNat na)] μ)
  refine v_istore_n hX dJ7_fill_53178_4 (by rw [hn]; decide) (?_ : V X 5 [some (.ref a), some (.int p1), some (.int 0), some (.int (Int32.ofNat na))] [] μ)
  exact v_mask [true, true, true, true] (hJ5 _ _ _ h)
def vc_J7_fill_53178_5 (a : Nat) (na : Nat) (p1 : Int32) (l2 : Int32) (l3 : Int32) (μ : Mem) (R : Mem → Prop) (J5 : Int32 → Int32 → Mem → Prop) : Prop :=
  ((l3 ≤ l2 → R μ) ∧ (¬ l3 ≤ l2 → vp_in l2 na ∧ (∀ μ3, μ3 = ui μ a (Int32.toNatClampNeg l2) p1 → J5 (l2 + 1) l3 μ3)))
set_option maxRecDepth 20000 in
set_option maxHeartbeats 4000000 in
theorem wk_J7_fill_53178_5 {X : XT} {P : Post} (hO : OkM X cJ7_fill_53178 RJ7 0 none P) (hn : xn X = 4) (a : Nat) (na : Nat) (p1 : Int32) (ha : isRow a na) (l2 : Int32) (l3 : Int32) (μ : Mem) {R : Mem → Prop} (hR : ∀ m, R m → P none m) {J5 : Int32 → Int32 → Mem → Prop} (hJ5 : ∀ (l2 : Int32) (l3 : Int32) (m : Mem), J5 l2 l3 m → V X 5 [some (.ref a), some (.int p1), some (.int l2), some (.int l3)] [] m)  (h : vc_J7_fill_53178_5 a na p1 l2 l3 μ R J5) : V X 5 [some (.ref a), some (.int p1), some (.int l2), some (.int l3)] [] μ := by
  have hX := hO.1
  unfold vc_J7_fill_53178_5 at h
  refine v_iload_n hX dJ7_fill_53178_5 rfl (?_ : V X 6 [some (.ref a), some (.int p1), some (.int l2), some (.int l3)] [.int l2] μ)
  refine v_iload_n hX dJ7_fill_53178_6 rfl (?_ : V X 7 [some (.ref a), some (.int p1), some (.int l2), some (.int l3)] [.int l3, .int l2] μ)
  refine v_icmp_ge hX 20 dJ7_fill_53178_7 rfl (fun c1 => ?_) (fun c1 => ?_)
  · replace h := h.1 c1
    exact v_vret hO dJ7_fill_53178_20 (hR _ h)
  · replace h := h.2 c1
    refine v_aload_n hX dJ7_fill_53178_10 rfl (?_ : V X 11 [some (.ref a), some (.int p1), some (.int l2), some (.int l3)] [.ref a] μ)
    refine v_iload_n hX dJ7_fill_53178_11 rfl (?_ : V X 12 [some (.ref a), some (.int p1), some (.int l2), some (.int l3)] [.int l2, .ref a] μ)
    refine v_iload_n hX dJ7_fill_53178_12 rfl (?_ : V X 13 [some (.ref a), some (.int p1), some (.int l2), some (.int l3)] [.int p1, .int l2, .ref a] μ)
    have hb2 := h.1
    replace h := h.2
    refine w_iast hX (Int32.toNatClampNeg l2) ha.1 hb2 rfl dJ7_fill_53178_13 (fun μ3 e4 => (?_ : V X 14 [some (.ref a), some (.int p1), some (.int l2), some (.int l3)] [] μ3))
    replace h := h μ3 e4
    refine v_iinc hX 1 dJ7_fill_53178_14 (by rw [hn]; decide) rfl rfl (?_ : V X 17 [some (.ref a), some (.int p1), some (.int (l2 + 1)), some (.int l3)] [] μ3)
    refine v_goto hX 5 dJ7_fill_53178_17 rfl (?_ : V X 5 [some (.ref a), some (.int p1), some (.int (l2 + 1)), some (.int l3)] [] μ3)
    exact v_mask [true, true, true, true] (hJ5 _ _ _ h)
set_option maxRecDepth 20000 in
set_option maxHeartbeats 4000000 in
theorem vp_J7_fill_53178_0 (a : Nat) (na : Nat) (p1 : Int32) (ha : isRow a na) (μ : Mem) (hpre : pre_J7_fill_53178 a na p1 μ) : vc_J7_fill_53178_0 a na p1 μ (post_J7_fill_53178 a na p1 μ) (fun l2 l3 m => ∃ k : Nat, inv_J7_fill_53178_5 a na p1 μ k l2 l3 m) := by
  simp only [vc_J7_fill_53178_0, and_imp, call_eq, forall_eq, forall_const, true_and, and_true]
  exact ⟨na, 0, Nat.zero_le _, rfl, rfl, rfl, fr_refl _ _, fun j hj => absurd hj (Nat.not_lt_zero j)⟩
set_option maxRecDepth 20000 in
set_option maxHeartbeats 4000000 in
theorem vp_J7_fill_53178_5 (a : Nat) (na : Nat) (p1 : Int32) (ha : isRow a na) (μ : Mem) (hpre : pre_J7_fill_53178 a na p1 μ) (n : Nat) (l2 : Int32) (l3 : Int32) (μ0 : Mem) (hi : inv_J7_fill_53178_5 a na p1 μ n l2 l3 μ0) : vc_J7_fill_53178_5 a na p1 l2 l3 μ0 (post_J7_fill_53178 a na p1 μ) (fun l2 l3 m => ∃ k : Nat, k < n ∧ inv_J7_fill_53178_5 a na p1 μ k l2 l3 m) := by
  simp only [vc_J7_fill_53178_5, and_imp, call_eq, forall_eq, forall_const, true_and, and_true]
  unfold post_J7_fill_53178
  unfold pre_J7_fill_53178 at hpre
  obtain ⟨i, hi1, rfl, rfl, rfl, hf, hv⟩ := hi
  refine ⟨fun c => ?_, fun c => ?_⟩
  · have : na ≤ i := (nI_leI (by omega) (by omega)).mp c
    exact ⟨hf, fun j hj => hv j (by omega)⟩
  · have hlt : i < na := by
      rcases Nat.lt_or_ge i na with h | h
      · exact h
      · exact absurd ((nI_leI (by omega) (by omega)).mpr h) c
    refine ⟨vp_in_nI hlt (by omega), na - (i + 1), by omega, i + 1, by omega, rfl, nI_1 i, rfl, fr_trans hf (fr_ui (by simp)), fun j hj => ?_⟩
    rw [gi_ui, nI_clamp (by omega)]
    by_cases h : j = i
    · simp [h]
    · rw [if_neg (by simp [h]), hv j (by omega)]
theorem sp_J7_fill_53178 : Sp yJ7_fill_53178 cJ7_fill_53178 4 none 0 S_J7_fill_53178 := by
  refine sp_of (by decide) (fun av μ P h => ?_) ?_
  · obtain ⟨a, na, p1, rfl, -⟩ := h
    refine ⟨Nat.le_of_ble_eq_true rfl, fun v hv => ?_⟩
    simp only [List.mem_cons, List.not_mem_nil, or_false] at hv
    rcases hv with rfl | rfl <;> rfl
  · rintro X P hO _ μ ⟨a, na, p1, rfl, ha, hpre, hpost⟩ hn
    have hJ : ∀ n : Nat, (∀ (l2 : Int32) (l3 : Int32) (m : Mem), inv_J7_fill_53178_5 a na p1 μ n l2 l3 m → V X 5 [some (.ref a), some (.int p1), some (.int l2), some (.int l3)] [] m) := by
      intro n
      induction n using Nat.strongRecOn with
      | _ n ih =>
        exact fun l2 l3 m hi => wk_J7_fill_53178_5 (J5 := (fun l2 l3 m => ∃ k : Nat, k < n ∧ inv_J7_fill_53178_5 a na p1 μ k l2 l3 m)) hO hn a na p1 ha l2 l3 m hpost (fun l2 l3 m hk => by obtain ⟨k, hk, hi⟩ := hk; exact (ih k hk) l2 l3 m hi) (vp_J7_fill_53178_5 a na p1 ha μ hpre n l2 l3 m hi)
    exact wk_J7_fill_53178_0 (J5 := (fun l2 l3 m => ∃ k : Nat, inv_J7_fill_53178_5 a na p1 μ k l2 l3 m)) hO hn a na p1 ha μ hpost (fun l2 l3 m hk => by obtain ⟨k, hi⟩ := hk; exact (hJ k) l2 l3 m hi) (vp_J7_fill_53178_0 a na p1 ha μ hpre)
end
section
/-! the class's scene, past, memory, inquiry: contracts -/
def gn (μ : Mem) (c k : Nat) : Nat := (gi μ c k).toNatClampNeg
def isN (μ : Mem) (c k b : Nat) : Prop := gi μ c k = nI (gn μ c k) ∧ gn μ c k ≤ b
def slvI (S r : Int32) : Int32 := (S >>> (r &&& 31)) &&& 1
def sumI (f : Nat → Int32) : Nat → Int32
  | 0 => 0
  | n + 1 => sumI f n + f n
def orI (f : Nat → Int32) : Nat → Int32
  | 0 => 0
  | n + 1 => orI f n ||| f n
def earnC (μ : Mem) (w : Nat) : Int32 := sumI (fun r => if slvI (gi μ 17 3) (nI r) = 1 then gi μ (w + 3) r else 0) (gn μ w 0)
def pre_X7_earnedIn (w : Nat) (μ : Mem) : Prop := isN μ w 0 5
def post_X7_earnedIn (w : Nat) (μ : Mem) (x : Int32) (m : Mem) : Prop := x = earnC μ w ∧ m = μ
def inv_X7_earnedIn_4 (w : Nat) (μ : Mem) (n : Nat) (l2 l3 : Int32) (m : Mem) : Prop := ∃ i, i ≤ gn μ w 0 ∧ n = gn μ w 0 - i ∧ l3 = nI i ∧ l2 = sumI (fun r => if slvI (gi μ 17 3) (nI r) = 1 then gi μ (w + 3) r else 0) i ∧ m = μ
def pre_X7_beginIn (w : Nat) (μ : Mem) : Prop := True
def post_X7_beginIn (w : Nat) (μ m : Mem) : Prop := fr [17, 18, 19] μ m ∧ gi m 17 0 = -9 ∧ gi m 17 1 = -9 ∧ gi m 17 2 = 0 ∧ gi m 17 3 = 0 ∧ gi m 17 4 = 0 ∧ (∀ j, j < 5 → gi m 18 j = gi μ (w + 1) j) ∧ ∀ j, j < 5 → gi m 19 j = -9
/-- the scene a of m is the scene b of μ -/
def cpS (a b : Nat) (μ m : Mem) : Prop := (∀ k, k < 5 → gi m a k = gi μ b k) ∧ (∀ j, j < 5 → gi m (a + 1) j = gi μ (b + 1) j) ∧ ∀ j, j < 5 → gi m (a + 2) j = gi μ (b + 2) j
def pre_X7_copyOf (a b : Nat) (μ : Mem) : Prop := a + 2 < b ∨ b + 2 < a
def post_X7_copyOf (a b : Nat) (μ m : Mem) : Prop := fr [a, a + 1, a + 2] μ m ∧ cpS a b μ m
def lossC (μ : Mem) (w : Nat) (r d : Int32) : Int32 := if gi μ 19 r.toNatClampNeg = d then (gi μ (w + 4) d.toNatClampNeg * gi μ (w + 2) r.toNatClampNeg) / 2 else gi μ (w + 4) d.toNatClampNeg * gi μ (w + 2) r.toNatClampNeg
def pre_X7_takeDoing (w : Nat) (p1 p2 : Int32) (μ : Mem) : Prop := vp_in p1 5 ∧ vp_in p2 5
def post_X7_takeDoing (w : Nat) (p1 p2 : Int32) (μ m : Mem) : Prop := fr [17, 18, 19] μ m ∧ gi m 17 1 = gi μ 17 1 ∧ gi m 17 2 = gi μ 17 2 + gi μ (w + 5) p2.toNatClampNeg ∧ gi m 17 4 = gi μ 17 4 ∧
  (∀ j, gi m 18 j = if j = p1.toNatClampNeg then gi μ 18 j - lossC μ w p1 p2 else gi μ 18 j) ∧ (∀ j, gi m 19 j = if j = p1.toNatClampNeg then p2 else gi μ 19 j) ∧
  (if gi μ 18 p1.toNatClampNeg - lossC μ w p1 p2 < 0 then gi m 17 3 = gi μ 17 3 ||| (1 <<< (p1 &&& 31)) ∧ gi m 17 0 = -9 else gi m 17 3 = gi μ 17 3 ∧ gi m 17 0 = gi μ 17 0)
def pre_X5_remember (μ : Mem) : Prop := isN μ 20 1 9 ∧ isN μ 20 2 10
def post_X5_remember (μ m : Mem) : Prop := fr [20, 22 + 3 * gn μ 20 1, 22 + 3 * gn μ 20 1 + 1, 22 + 3 * gn μ 20 1 + 2] μ m ∧ cpS (22 + 3 * gn μ 20 1) 17 μ m ∧ gi m 20 1 = nI ((gn μ 20 1 + 1) % 10) ∧ gi m 20 2 = nI (min (gn μ 20 2 + 1) 10)
def pre_X5_restore (μ : Mem) : Prop := isN μ 20 1 9 ∧ isN μ 20 2 10 ∧ 1 ≤ gn μ 20 2
def post_X5_restore (μ m : Mem) : Prop := fr [17, 18, 19, 20] μ m ∧ cpS 17 (22 + 3 * ((gn μ 20 1 + 9) % 10)) μ m ∧ gi m 20 1 = nI ((gn μ 20 1 + 9) % 10) ∧ gi m 20 2 = nI (gn μ 20 2 - 1)
def pre_X4_add (p1 p2 : Int32) (μ : Mem) : Prop := isN μ 71 2 4
def post_X4_add (p1 p2 : Int32) (μ m : Mem) : Prop := m = ui (ui (ui μ 72 (gn μ 71 2) p1) 73 (gn μ 71 2) p2) 71 2 (gi μ 71 2 + 1)
def pre_X4_agreesWith (w : Nat) (p1 : Int32) (μ : Mem) : Prop := isN μ 71 2 5 ∧ ∀ i, i < gn μ 71 2 → vp_in (gi μ 72 i) 5
def post_X4_agreesWith (w : Nat) (p1 : Int32) (μ : Mem) (x : Int32) (m : Mem) : Prop := x = (if ∀ i, i < gn μ 71 2 → gi μ (w + 4) (gn μ 72 i) * p1 = gi μ 73 i then 1 else 0) ∧ m = μ
def inv_X4_agreesWith_2 (w : Nat) (p1 : Int32) (μ : Mem) (n : Nat) (l3 : Int32) (m : Mem) : Prop := ∃ i, i ≤ gn μ 71 2 ∧ n = gn μ 71 2 - i ∧ l3 = nI i ∧ m = μ ∧ ∀ j, j < i → gi μ (w + 4) (gn μ 72 j) * p1 = gi μ 73 j
def leftC (μ : Mem) (w : Nat) (asked : Int32) : Int32 := orI (fun s => if (gi μ (w + 6) s ^^^ gi μ (w + 6) (gn μ w 9)) &&& asked = 0 then 1 <<< (nI s &&& 31) else 0) (gn μ w 7)
def pre_X3_leftOf (w : Nat) (p1 : Int32) (μ : Mem) : Prop := isN μ w 7 6 ∧ isN μ w 9 5
def post_X3_leftOf (w : Nat) (p1 : Int32) (μ : Mem) (x : Int32) (m : Mem) : Prop := x = leftC μ w p1 ∧ m = μ
def inv_X3_leftOf_4 (w : Nat) (p1 : Int32) (μ : Mem) (n : Nat) (l2 l3 : Int32) (m : Mem) : Prop := ∃ i, i ≤ gn μ w 7 ∧ n = gn μ w 7 - i ∧ l3 = nI i ∧ l2 = orI (fun s => if (gi μ (w + 6) s ^^^ gi μ (w + 6) (gn μ w 9)) &&& p1 = 0 then 1 <<< (nI s &&& 31) else 0) i ∧ m = μ
def withC (μ : Mem) (w : Nat) (t : Int32) : Int32 := orI (fun s => (gi μ (w + 6) s >>> (t &&& 31) &&& 1) <<< (nI s &&& 31)) (gn μ w 7)
def pre_X3_withTrait (w : Nat) (p1 : Int32) (μ : Mem) : Prop := isN μ w 7 6
def post_X3_withTrait (w : Nat) (p1 : Int32) (μ : Mem) (x : Int32) (m : Mem) : Prop := x = withC μ w p1 ∧ m = μ
def inv_X3_withTrait_4 (w : Nat) (p1 : Int32) (μ : Mem) (n : Nat) (l2 l3 : Int32) (m : Mem) : Prop := ∃ i, i ≤ gn μ w 7 ∧ n = gn μ w 7 - i ∧ l3 = nI i ∧ l2 = orI (fun s => (gi μ (w + 6) s >>> (p1 &&& 31) &&& 1) <<< (nI s &&& 31)) i ∧ m = μ
end
section
theorem isN_le {μ : Mem} {c k b i : Nat} (h : isN μ c k b) (hb : b < 2 ^ 31) (hi : i < 2 ^ 31) : gi μ c k ≤ nI i ↔ gn μ c k ≤ i := by
  rw [h.1]
  have h2 := h.2
  rw [nI_leI (by omega) hi]
theorem isN_in {μ : Mem} {c k b N : Nat} (h : isN μ c k b) (hb : gn μ c k < N) (hN : N < 2 ^ 31) : vp_in (gi μ c k) N := by
  rw [h.1]
  exact vp_in_nI hb hN
theorem orI_0 (x : Int32) : x ||| 0 = x := by simp
theorem tk_end {w : Nat} {p1 p2 : Int32} (μ : Mem) : ∀ (c1 : Int32) (m : Mem), lossC μ w p1 p2 = c1 → m = ui (ui (ui μ 17 2 (gi μ 17 2 + gi μ (w + 5) p2.toNatClampNeg)) 18 p1.toNatClampNeg (gi μ 18 p1.toNatClampNeg - c1)) 19 p1.toNatClampNeg p2 → ((0 ≤ gi m 18 p1.toNatClampNeg → post_X7_takeDoing w p1 p2 μ m) ∧ (¬ 0 ≤ gi m 18 p1.toNatClampNeg → post_X7_takeDoing w p1 p2 μ (ui (ui m 17 3 (gi m 17 3 ||| 1 <<< (p1 &&& 31))) 17 0 (-9)))) := by
  intro c1 m hc1 hm
  generalize hj : p1.toNatClampNeg = j at hm
  generalize hv : gi μ 18 j - c1 = v at hm
  generalize ht : gi μ 17 2 + gi μ (w + 5) p2.toNatClampNeg = t at hm
  generalize hb : (1 : Int32) <<< (p1 &&& 31) = b
  have g : ∀ c k, gi m c k = if c = 19 ∧ k = j then p2 else if c = 18 ∧ k = j then v else if c = 17 ∧ k = 2 then t else gi μ c k := by
    intro c k; rw [hm]; rfl
  have gf : ∀ c, c ∉ [17, 18, 19] → ∀ k, gi m c k = gi μ c k := by
    intro c hc k
    simp only [List.mem_cons, List.not_mem_nil, or_false, not_or] at hc
    rw [g]; simp [hc]
  have g2 : m.2 = μ.2 := by rw [hm]; rfl
  have g18 : ∀ k, gi m 18 k = if k = j then v else gi μ 18 k := by intro k; rw [g]; simp
  have g19 : ∀ k, gi m 19 k = if k = j then p2 else gi μ 19 k := by intro k; rw [g]; simp
  have g17 : ∀ k, gi m 17 k = if k = 2 then t else gi μ 17 k := by intro k; rw [g]; simp
  rw [g18 j, if_pos rfl]
  unfold post_X7_takeDoing
  rw [hc1, hj, hv, ht, hb]
  refine ⟨fun c => ⟨⟨gf, g2⟩, g17 1, g17 2, g17 4, fun k => ?_, g19, ?_⟩, fun c => ⟨⟨fun c hc k => ?_, g2⟩, ?_, ?_, ?_, fun k => ?_, fun k => ?_, ?_⟩⟩
  · rw [g18]; split
    · rename_i h; rw [h, hv]
    · rfl
  · rw [if_neg (by simpa using c)]; exact ⟨g17 3, g17 0⟩
  · have := gf c hc k
    simp only [List.mem_cons, List.not_mem_nil, or_false, not_or] at hc
    rw [gi_ui, if_neg (by simp [hc]), gi_ui, if_neg (by simp [hc]), this]
  · rw [gi_ui, if_neg (by simp), gi_ui, if_neg (by simp), g17 1]; rfl
  · rw [gi_ui, if_neg (by simp), gi_ui, if_neg (by simp), g17 2]; rfl
  · rw [gi_ui, if_neg (by simp), gi_ui, if_neg (by simp), g17 4]; rfl
  · rw [gi_ui, if_neg (by simp), gi_ui, if_neg (by simp), g18 k]; split
    · rename_i h; rw [h, hv]
    · rfl
  · rw [gi_ui, if_neg (by simp), gi_ui, if_neg (by simp), g19 k]
  · rw [if_pos (by simpa using c)]
    refine ⟨?_, ?_⟩
    · rw [gi_ui, if_neg (by simp), gi_ui, if_pos ⟨rfl, rfl⟩, g17 3, if_neg (by decide)]
    · rw [gi_ui, if_pos ⟨rfl, rfl⟩]
def S_X7_earnedIn : Tr := fun av μ P => ∃ (w : Nat), av = [.ref 17, .ref w] ∧ (w = 3 ∨ w = 10) ∧ pre_X7_earnedIn w μ ∧ ∀ (x : Int32) (m : Mem), post_X7_earnedIn w μ x m → P (some (.int x)) m
def vc_X7_earnedIn_0 (w : Nat)  (μ : Mem) (R : Int32 → Mem → Prop) (J4 : Int32 → Int32 → Mem → Prop) : Prop :=
  J4 0 0 μ
set_option maxRecDepth 20000 in
set_option maxHeartbeats 4000000 in
theorem wk_X7_earnedIn_0 {X : XT} {P : Post} (hO : OkM X cX7_earnedIn RX7 1 (some .int) P) (hn : xn X = 4) (w : Nat) (hw : w = 3 ∨ w = 10)  (μ : Mem) {R : Int32 → Mem → Prop} (hR : ∀ x m, R x m → P (some (.int x)) m) {J4 : Int32 → Int32 → Mem → Prop} (hJ4 : ∀ (l2 : Int32) (l3 : Int32) (m : Mem), J4 l2 l3 m → V X 4 [some (.ref 17), some (.ref w), some (.int l2), some (.int l3)] [] m)  (h : vc_X7_earnedIn_0 w  μ R J4) : V X 0 [some (.ref 17), some (.ref w), none, none] [] μ := by
  have hX := hO.1
  unfold vc_X7_earnedIn_0 at h
  refine v_iconst hX 0 dX7_earnedIn_0 rfl (?_ : V X 1 [some (.ref 17), some (.ref w), none, none] [.int 0] μ)
  refine v_istore_n hX dX7_earnedIn_1 (by rw [hn]; decide) (?_ : V X 2 [some (.ref 17), some (.ref w), some (.int 0), none] [] μ)
  refine v_iconst hX 0 dX7_earnedIn_2 rfl (?_ : V X 3 [some (.ref 17), some (.ref w), some (.int 0), none] [.int 0] μ)
  refine v_istore_n hX dX7_earnedIn_3 (by rw [hn]; decide) (?_ : V X 4 [some (.ref 17), some (.ref w), some (.int 0), some (.int 0)] [] μ)
  exact v_mask [true, true, true, true] (hJ4 _ _ _ h)
def vc_X7_earnedIn_4 (w : Nat) (l2 : Int32) (l3 : Int32) (μ : Mem) (R : Int32 → Mem → Prop) (J4 : Int32 → Int32 → Mem → Prop) : Prop :=
  (((gi μ w 0) ≤ l3 → R l2 μ) ∧ (¬ (gi μ w 0) ≤ l3 → (pre_X7_isSolved l3 μ ∧ ∀ (x2 : Int32) (μ3 : Mem), post_X7_isSolved l3 μ x2 μ3 → ((x2 = 0 → J4 l2 (l3 + 1) μ3) ∧ (¬ x2 = 0 → vp_in l3 5 ∧ (∀ y7 : Int32, y7 = l2 + (gi μ3 (w + 3) (Int32.toNatClampNeg l3)) → J4 y7 (l3 + 1) μ3))))))
set_option maxRecDepth 20000 in
set_option maxHeartbeats 4000000 in
theorem wk_X7_earnedIn_4 {X : XT} {P : Post} (hO : OkM X cX7_earnedIn RX7 1 (some .int) P) (hn : xn X = 4) (w : Nat) (hw : w = 3 ∨ w = 10) (l2 : Int32) (l3 : Int32) (μ : Mem) {R : Int32 → Mem → Prop} (hR : ∀ x m, R x m → P (some (.int x)) m) {J4 : Int32 → Int32 → Mem → Prop} (hJ4 : ∀ (l2 : Int32) (l3 : Int32) (m : Mem), J4 l2 l3 m → V X 4 [some (.ref 17), some (.ref w), some (.int l2), some (.int l3)] [] m)  (h : vc_X7_earnedIn_4 w l2 l3 μ R J4) : V X 4 [some (.ref 17), some (.ref w), some (.int l2), some (.int l3)] [] μ := by
  have hX := hO.1
  unfold vc_X7_earnedIn_4 at h
  refine v_iload_n hX dX7_earnedIn_4 rfl (?_ : V X 5 [some (.ref 17), some (.ref w), some (.int l2), some (.int l3)] [.int l3] μ)
  refine v_aload_n hX dX7_earnedIn_5 rfl (?_ : V X 6 [some (.ref 17), some (.ref w), some (.int l2), some (.int l3)] [.ref w, .int l3] μ)
  refine v_geti hX fk_X7_49 (sHo hw) rfl dX7_earnedIn_6 (?_ : V X 9 [some (.ref 17), some (.ref w), some (.int l2), some (.int l3)] [.int (gi μ w 0), .int l3] μ)
  refine v_icmp_ge hX 35 dX7_earnedIn_9 rfl (fun c1 => ?_) (fun c1 => ?_)
  · replace h := h.1 c1
    refine v_iload_n hX dX7_earnedIn_35 rfl (?_ : V X 36 [some (.ref 17), some (.ref w), some (.int l2), some (.int l3)] [.int l2] μ)
    exact v_iret hO dX7_earnedIn_36 (hR _ _ h)
  · replace h := h.2 c1
    refine v_aload_n hX dX7_earnedIn_12 rfl (?_ : V X 13 [some (.ref 17), some (.ref w), some (.int l2), some (.int l3)] [.ref 17] μ)
    refine v_iload_n hX dX7_earnedIn_13 rfl (?_ : V X 14 [some (.ref 17), some (.ref w), some (.int l2), some (.int l3)] [.int l3, .ref 17] μ)
    refine v_callV hX sp_X7_isSolved ck_X7_isSolved mk_X7_52 mv_X7_isSolved sh_17 (by decide) (by decide) [.int l3] [] rfl rfl (Nat.le_of_ble_eq_true rfl) dX7_earnedIn_14 ⟨l3, rfl, h.1, fun x2 μ3 hp4 => (?_ : V X 17 [some (.ref 17), some (.ref w), some (.int l2), some (.int l3)] [.int x2] μ3)⟩
    replace h := h.2 x2 μ3 hp4
    refine v_if_eq hX 29 dX7_earnedIn_17 rfl (fun c5 => ?_) (fun c5 => ?_)
    · replace h := h.1 c5
      refine v_iinc hX 1 dX7_earnedIn_29 (by rw [hn]; decide) rfl rfl (?_ : V X 32 [some (.ref 17), some (.ref w), some (.int l2), some (.int (l3 + 1))] [] μ3)
      refine v_goto hX 4 dX7_earnedIn_32 rfl (?_ : V X 4 [some (.ref 17), some (.ref w), some (.int l2), some (.int (l3 + 1))] [] μ3)
      exact v_mask [true, true, true, true] (hJ4 _ _ _ h)
    · replace h := h.2 c5
      refine v_iload_n hX dX7_earnedIn_20 rfl (?_ : V X 21 [some (.ref 17), some (.ref w), some (.int l2), some (.int l3)] [.int l2] μ3)
      refine v_aload_n hX dX7_earnedIn_21 rfl (?_ : V X 22 [some (.ref 17), some (.ref w), some (.int l2), some (.int l3)] [.ref w, .int l2] μ3)
      refine v_getr hX (w + 3) fk_X7_56 (sHo hw) rfl rfl dX7_earnedIn_22 (?_ : V X 25 [some (.ref 17), some (.ref w), some (.int l2), some (.int l3)] [.ref (w + 3), .int l2] μ3)
      refine v_iload_n hX dX7_earnedIn_25 rfl (?_ : V X 26 [some (.ref 17), some (.ref w), some (.int l2), some (.int l3)] [.int l3, .ref (w + 3), .int l2] μ3)
      have hb6 := h.1
      replace h := h.2
      refine w_iald hX (Int32.toNatClampNeg l3) (sH3 hw) hb6 rfl dX7_earnedIn_26 (?_ : V X 27 [some (.ref 17), some (.ref w), some (.int l2), some (.int l3)] [.int (gi μ3 (w + 3) (Int32.toNatClampNeg l3)), .int l2] μ3)
      refine v_iadd hX dX7_earnedIn_27 (?_ : V X 28 [some (.ref 17), some (.ref w), some (.int l2), some (.int l3)] [.int (l2 + (gi μ3 (w + 3) (Int32.toNatClampNeg l3)))] μ3)
      refine w_istore_n hX dX7_earnedIn_28 (by rw [hn]; decide) (fun y7 e8 => (?_ : V X 29 [some (.ref 17), some (.ref w), some (.int y7), some (.int l3)] [] μ3))
      replace h := h y7 e8
      refine v_iinc hX 1 dX7_earnedIn_29 (by rw [hn]; decide) rfl rfl (?_ : V X 32 [some (.ref 17), some (.ref w), some (.int y7), some (.int (l3 + 1))] [] μ3)
      refine v_goto hX 4 dX7_earnedIn_32 rfl (?_ : V X 4 [some (.ref 17), some (.ref w), some (.int y7), some (.int (l3 + 1))] [] μ3)
      exact v_mask [true, true, true, true] (hJ4 _ _ _ h)
set_option maxRecDepth 20000 in
set_option maxHeartbeats 4000000 in
theorem vp_X7_earnedIn_0 (w : Nat) (hw : w = 3 ∨ w = 10) (μ : Mem) (hpre : pre_X7_earnedIn w μ) : vc_X7_earnedIn_0 w μ (post_X7_earnedIn w μ) (fun l2 l3 m => ∃ k : Nat, inv_X7_earnedIn_4 w μ k l2 l3 m) := by
  simp only [vc_X7_earnedIn_0, pre_X7_isSolved, post_X7_isSolved, and_imp, call_eq, forall_eq, forall_const, true_and, and_true]
  exact ⟨gn μ w 0, 0, Nat.zero_le _, rfl, rfl, rfl, rfl⟩
set_option maxRecDepth 20000 in
set_option maxHeartbeats 4000000 in
theorem vp_X7_earnedIn_4 (w : Nat) (hw : w = 3 ∨ w = 10) (μ : Mem) (hpre : pre_X7_earnedIn w μ) (n : Nat) (l2 : Int32) (l3 : Int32) (μ0 : Mem) (hi : inv_X7_earnedIn_4 w μ n l2 l3 μ0) : vc_X7_earnedIn_4 w l2 l3 μ0 (post_X7_earnedIn w μ) (fun l2 l3 m => ∃ k : Nat, k < n ∧ inv_X7_earnedIn_4 w μ k l2 l3 m) := by
  simp only [vc_X7_earnedIn_4, pre_X7_isSolved, post_X7_isSolved, and_imp, call_eq, forall_eq, forall_const, true_and, and_true]
  unfold post_X7_earnedIn
  unfold pre_X7_earnedIn at hpre
  obtain ⟨i, hi1, rfl, rfl, rfl, rfl⟩ := hi
  have hb := hpre.2
  rw [isN_le hpre (by omega) (by omega)]
  refine ⟨fun c => ?_, fun c => ?_⟩
  · have : i = gn μ0 w 0 := by omega
    subst this
    exact ⟨rfl, rfl⟩
  · refine ⟨fun c2 => ⟨gn μ0 w 0 - (i + 1), by omega, i + 1, by omega, rfl, nI_1 i, ?_, rfl⟩, fun c2 => ⟨vp_in_nI (by omega) (by omega), gn μ0 w 0 - (i + 1), by omega, i + 1, by omega, rfl, nI_1 i, ?_, rfl⟩⟩
    · simp only [sumI, slvI]; split at c2 <;> simp_all
    · rw [nI_clamp (by omega)]; simp only [sumI, slvI]; split at c2 <;> simp_all
theorem sp_X7_earnedIn : Sp yX7_earnedIn cX7_earnedIn 4 (some .int) 1 S_X7_earnedIn := by
  refine sp_of (by decide) (fun av μ P h => ?_) ?_
  · obtain ⟨w, rfl, -⟩ := h
    refine ⟨Nat.le_of_ble_eq_true rfl, fun v hv => ?_⟩
    simp only [List.mem_cons, List.not_mem_nil, or_false] at hv
    rcases hv with rfl | rfl <;> rfl
  · rintro X P hO _ μ ⟨w, rfl, hw, hpre, hpost⟩ hn
    have hJ : ∀ n : Nat, (∀ (l2 : Int32) (l3 : Int32) (m : Mem), inv_X7_earnedIn_4 w μ n l2 l3 m → V X 4 [some (.ref 17), some (.ref w), some (.int l2), some (.int l3)] [] m) := by
      intro n
      induction n using Nat.strongRecOn with
      | _ n ih =>
        exact fun l2 l3 m hi => wk_X7_earnedIn_4 (J4 := (fun l2 l3 m => ∃ k : Nat, k < n ∧ inv_X7_earnedIn_4 w μ k l2 l3 m)) hO hn w hw l2 l3 m hpost (fun l2 l3 m hk => by obtain ⟨k, hk, hi⟩ := hk; exact (ih k hk) l2 l3 m hi) (vp_X7_earnedIn_4 w hw μ hpre n l2 l3 m hi)
    exact wk_X7_earnedIn_0 (J4 := (fun l2 l3 m => ∃ k : Nat, inv_X7_earnedIn_4 w μ k l2 l3 m)) hO hn w hw μ hpost (fun l2 l3 m hk => by obtain ⟨k, hi⟩ := hk; exact (hJ k) l2 l3 m hi) (vp_X7_earnedIn_0 w hw μ hpre)
def S_X7_beginIn : Tr := fun av μ P => ∃ (w : Nat), av = [.ref 17, .ref w] ∧ (w = 3 ∨ w = 10) ∧ pre_X7_beginIn w μ ∧ ∀ m : Mem, post_X7_beginIn w μ m → P none m
def vc_X7_beginIn_0 (w : Nat)  (μ : Mem) (R : Mem → Prop)  : Prop :=
  (∀ μ1, μ1 = ui μ 17 0 ((-9)) → (∀ μ3, μ3 = ui μ1 17 1 ((-9)) → (∀ μ5, μ5 = ui μ3 17 2 0 → (∀ μ7, μ7 = ui μ5 17 3 0 → (∀ μ9, μ9 = ui μ7 17 4 0 → (∀ μ11, μ11 = ua μ9 18 (va_cpy (gi μ9 (w + 1)) (gi μ9 18) 0 0 5) → (pre_J7_fill_53178 19 5 ((-9)) μ11 ∧ ∀ (μ14 : Mem), post_J7_fill_53178 19 5 ((-9)) μ11 μ14 → R μ14)))))))
set_option maxRecDepth 20000 in
set_option maxHeartbeats 4000000 in
theorem wk_X7_beginIn_0 {X : XT} {P : Post} (hO : OkM X cX7_beginIn RX7 2 none P) (hn : xn X = 2) (w : Nat) (hw : w = 3 ∨ w = 10)  (μ : Mem) {R : Mem → Prop} (hR : ∀ m, R m → P none m)    (h : vc_X7_beginIn_0 w  μ R ) : V X 0 [some (.ref 17), some (.ref w)] [] μ := by
  have hX := hO.1
  unfold vc_X7_beginIn_0 at h
  refine v_aload_n hX dX7_beginIn_0 rfl (?_ : V X 1 [some (.ref 17), some (.ref w)] [.ref 17] μ)
  refine v_bipush hX (-9) dX7_beginIn_1 rfl (?_ : V X 3 [some (.ref 17), some (.ref w)] [.int ((-9)), .ref 17] μ)
  refine w_puti hX fk_X7_18 fw_7_0 sh_17 rfl dX7_beginIn_3 (fun μ1 e2 => (?_ : V X 6 [some (.ref 17), some (.ref w)] [] μ1))
  replace h := h μ1 e2
  refine v_aload_n hX dX7_beginIn_6 rfl (?_ : V X 7 [some (.ref 17), some (.ref w)] [.ref 17] μ1)
  refine v_bipush hX (-9) dX7_beginIn_7 rfl (?_ : V X 9 [some (.ref 17), some (.ref w)] [.int ((-9)), .ref 17] μ1)
  refine w_puti hX fk_X7_22 fw_7_1 sh_17 rfl dX7_beginIn_9 (fun μ3 e4 => (?_ : V X 12 [some (.ref 17), some (.ref w)] [] μ3))
  replace h := h μ3 e4
  refine v_aload_n hX dX7_beginIn_12 rfl (?_ : V X 13 [some (.ref 17), some (.ref w)] [.ref 17] μ3)
  refine v_iconst hX 0 dX7_beginIn_13 rfl (?_ : V X 14 [some (.ref 17), some (.ref w)] [.int 0, .ref 17] μ3)
  refine w_puti hX fk_X7_25 fw_7_2 sh_17 rfl dX7_beginIn_14 (fun μ5 e6 => (?_ : V X 17 [some (.ref 17), some (.ref w)] [] μ5))
  replace h := h μ5 e6
  refine v_aload_n hX dX7_beginIn_17 rfl (?_ : V X 18 [some (.ref 17), some (.ref w)] [.ref 17] μ5)
  refine v_iconst hX 0 dX7_beginIn_18 rfl (?_ : V X 19 [some (.ref 17), some (.ref w)] [.int 0, .ref 17] μ5)
  refine w_puti hX fk_X7_28 fw_7_3 sh_17 rfl dX7_beginIn_19 (fun μ7 e8 => (?_ : V X 22 [some (.ref 17), some (.ref w)] [] μ7))
  replace h := h μ7 e8
  refine v_aload_n hX dX7_beginIn_22 rfl (?_ : V X 23 [some (.ref 17), some (.ref w)] [.ref 17] μ7)
  refine v_iconst hX 0 dX7_beginIn_23 rfl (?_ : V X 24 [some (.ref 17), some (.ref w)] [.int 0, .ref 17] μ7)
  refine w_puti hX fk_X7_31 fw_7_4 sh_17 rfl dX7_beginIn_24 (fun μ9 e10 => (?_ : V X 27 [some (.ref 17), some (.ref w)] [] μ9))
  replace h := h μ9 e10
  refine v_aload_n hX dX7_beginIn_27 rfl (?_ : V X 28 [some (.ref 17), some (.ref w)] [.ref w] μ9)
  refine v_getr hX (w + 1) fk_X7_34 (sHo hw) rfl rfl dX7_beginIn_28 (?_ : V X 31 [some (.ref 17), some (.ref w)] [.ref (w + 1)] μ9)
  refine v_iconst hX 0 dX7_beginIn_31 rfl (?_ : V X 32 [some (.ref 17), some (.ref w)] [.int 0, .ref (w + 1)] μ9)
  refine v_aload_n hX dX7_beginIn_32 rfl (?_ : V X 33 [some (.ref 17), some (.ref w)] [.ref 17, .int 0, .ref (w + 1)] μ9)
  refine v_getr hX (18) fk_X7_9 sh_17 rfl rfl dX7_beginIn_33 (?_ : V X 36 [some (.ref 17), some (.ref w)] [.ref 18, .int 0, .ref (w + 1)] μ9)
  refine v_iconst hX 0 dX7_beginIn_36 rfl (?_ : V X 37 [some (.ref 17), some (.ref w)] [.int 0, .ref 18, .int 0, .ref (w + 1)] μ9)
  refine v_iconst hX 5 dX7_beginIn_37 rfl (?_ : V X 38 [some (.ref 17), some (.ref w)] [.int 5, .int 0, .ref 18, .int 0, .ref (w + 1)] μ9)
  refine w_copy hX 5 mk_X7_37 (sH1 hw) sh_18 (by decide) (by decide) (by decide) (Nat.le_of_ble_eq_true rfl) dX7_beginIn_38 (by decide) (by decide) (by decide) (by decide) (fun μ11 e12 => (?_ : V X 41 [some (.ref 17), some (.ref w)] [] μ11))
  replace h := h μ11 e12
  refine v_aload_n hX dX7_beginIn_41 rfl (?_ : V X 42 [some (.ref 17), some (.ref w)] [.ref 17] μ11)
  refine v_getr hX (19) fk_X7_15 sh_17 rfl rfl dX7_beginIn_42 (?_ : V X 45 [some (.ref 17), some (.ref w)] [.ref 19] μ11)
  refine v_bipush hX (-9) dX7_beginIn_45 rfl (?_ : V X 47 [some (.ref 17), some (.ref w)] [.int ((-9)), .ref 19] μ11)
  refine v_callS hX sp_J7_fill_53178 ck_J7_fill_53178 mk_X7_43 sk_J7_fill_53178 (by decide) [.ref 19, .int ((-9))] [] rfl rfl (Nat.le_of_ble_eq_true rfl) dX7_beginIn_47 ⟨19, 5, ((-9)), rfl, ⟨sh_19, by decide⟩, h.1, fun μ14 hp15 => (?_ : V X 50 [some (.ref 17), some (.ref w)] [] μ14)⟩
  replace h := h.2 μ14 hp15
  exact v_vret hO dX7_beginIn_50 (hR _ h)
set_option maxRecDepth 20000 in
set_option maxHeartbeats 4000000 in
theorem vp_X7_beginIn_0 (w : Nat) (hw : w = 3 ∨ w = 10) (μ : Mem) (hpre : pre_X7_beginIn w μ) : vc_X7_beginIn_0 w μ (post_X7_beginIn w μ)  := by
  unfold vc_X7_beginIn_0
  rintro _ rfl _ rfl _ rfl _ rfl _ rfl _ rfl
  refine ⟨by unfold pre_J7_fill_53178; omega, fun m hp => ?_⟩
  obtain ⟨⟨hf1, hf2⟩, hv⟩ := hp
  refine ⟨⟨fun c hc k => ?_, by rw [hf2]; rfl⟩, ?_, ?_, ?_, ?_, ?_, fun j hj => ?_, hv⟩
  · simp only [List.mem_cons, List.not_mem_nil, or_false, not_or] at hc
    rw [hf1 c (by simp [hc])]
    simp [gi_ua, gi_ui, hc]
  · rw [hf1 17 (by decide)]; simp [gi_ua, gi_ui]
  · rw [hf1 17 (by decide)]; simp [gi_ua, gi_ui]
  · rw [hf1 17 (by decide)]; simp [gi_ua, gi_ui]
  · rw [hf1 17 (by decide)]; simp [gi_ua, gi_ui]
  · rw [hf1 17 (by decide)]; simp [gi_ua, gi_ui]
  · rw [hf1 18 (by decide)]
    have hw2 : w + 1 ≠ 17 := by omega
    simp [gi_ua, gi_ui, va_cpy, hj, hw2]
theorem sp_X7_beginIn : Sp yX7_beginIn cX7_beginIn 2 none 2 S_X7_beginIn := by
  refine sp_of (by decide) (fun av μ P h => ?_) ?_
  · obtain ⟨w, rfl, -⟩ := h
    refine ⟨Nat.le_of_ble_eq_true rfl, fun v hv => ?_⟩
    simp only [List.mem_cons, List.not_mem_nil, or_false] at hv
    rcases hv with rfl | rfl <;> rfl
  · rintro X P hO _ μ ⟨w, rfl, hw, hpre, hpost⟩ hn
    exact wk_X7_beginIn_0 hO hn w hw μ hpost (vp_X7_beginIn_0 w hw μ hpre)
def S_X7_copyOf : Tr := fun av μ P => ∃ (a : Nat) (b : Nat), av = [.ref a, .ref b] ∧ (isSc a) ∧ (isSc b) ∧ pre_X7_copyOf a b μ ∧ ∀ m : Mem, post_X7_copyOf a b μ m → P none m
def vc_X7_copyOf_0 (a : Nat) (b : Nat)  (μ : Mem) (R : Mem → Prop)  : Prop :=
  (∀ μ1, μ1 = ui μ a 0 (gi μ b 0) → (∀ μ3, μ3 = ui μ1 a 1 (gi μ1 b 1) → (∀ μ5, μ5 = ui μ3 a 2 (gi μ3 b 2) → (∀ μ7, μ7 = ui μ5 a 3 (gi μ5 b 3) → (∀ μ9, μ9 = ui μ7 a 4 (gi μ7 b 4) → (∀ μ11, μ11 = ua μ9 (a + 1) (va_cpy (gi μ9 (b + 1)) (gi μ9 (a + 1)) 0 0 5) → (∀ μ13, μ13 = ua μ11 (a + 2) (va_cpy (gi μ11 (b + 2)) (gi μ11 (a + 2)) 0 0 5) → R μ13)))))))
set_option maxRecDepth 20000 in
set_option maxHeartbeats 4000000 in
theorem wk_X7_copyOf_0 {X : XT} {P : Post} (hO : OkM X cX7_copyOf RX7 2 none P) (hn : xn X = 2) (a : Nat) (b : Nat) (ha : isSc a) (hb : isSc b)  (μ : Mem) {R : Mem → Prop} (hR : ∀ m, R m → P none m)    (h : vc_X7_copyOf_0 a b  μ R ) : V X 0 [some (.ref a), some (.ref b)] [] μ := by
  have hX := hO.1
  unfold vc_X7_copyOf_0 at h
  refine v_aload_n hX dX7_copyOf_0 rfl (?_ : V X 1 [some (.ref a), some (.ref b)] [.ref a] μ)
  refine v_aload_n hX dX7_copyOf_1 rfl (?_ : V X 2 [some (.ref a), some (.ref b)] [.ref b, .ref a] μ)
  refine v_geti hX fk_X7_18 hb.1 rfl dX7_copyOf_2 (?_ : V X 5 [some (.ref a), some (.ref b)] [.int (gi μ b 0), .ref a] μ)
  refine w_puti hX fk_X7_18 fw_7_0 ha.1 rfl dX7_copyOf_5 (fun μ1 e2 => (?_ : V X 8 [some (.ref a), some (.ref b)] [] μ1))
  replace h := h μ1 e2
  refine v_aload_n hX dX7_copyOf_8 rfl (?_ : V X 9 [some (.ref a), some (.ref b)] [.ref a] μ1)
  refine v_aload_n hX dX7_copyOf_9 rfl (?_ : V X 10 [some (.ref a), some (.ref b)] [.ref b, .ref a] μ1)
  refine v_geti hX fk_X7_22 hb.1 rfl dX7_copyOf_10 (?_ : V X 13 [some (.ref a), some (.ref b)] [.int (gi μ1 b 1), .ref a] μ1)
  refine w_puti hX fk_X7_22 fw_7_1 ha.1 rfl dX7_copyOf_13 (fun μ3 e4 => (?_ : V X 16 [some (.ref a), some (.ref b)] [] μ3))
  replace h := h μ3 e4
  refine v_aload_n hX dX7_copyOf_16 rfl (?_ : V X 17 [some (.ref a), some (.ref b)] [.ref a] μ3)
  refine v_aload_n hX dX7_copyOf_17 rfl (?_ : V X 18 [some (.ref a), some (.ref b)] [.ref b, .ref a] μ3)
  refine v_geti hX fk_X7_25 hb.1 rfl dX7_copyOf_18 (?_ : V X 21 [some (.ref a), some (.ref b)] [.int (gi μ3 b 2), .ref a] μ3)
  refine w_puti hX fk_X7_25 fw_7_2 ha.1 rfl dX7_copyOf_21 (fun μ5 e6 => (?_ : V X 24 [some (.ref a), some (.ref b)] [] μ5))
  replace h := h μ5 e6
  refine v_aload_n hX dX7_copyOf_24 rfl (?_ : V X 25 [some (.ref a), some (.ref b)] [.ref a] μ5)
  refine v_aload_n hX dX7_copyOf_25 rfl (?_ : V X 26 [some (.ref a), some (.ref b)] [.ref b, .ref a] μ5)
  refine v_geti hX fk_X7_28 hb.1 rfl dX7_copyOf_26 (?_ : V X 29 [some (.ref a), some (.ref b)] [.int (gi μ5 b 3), .ref a] μ5)
  refine w_puti hX fk_X7_28 fw_7_3 ha.1 rfl dX7_copyOf_29 (fun μ7 e8 => (?_ : V X 32 [some (.ref a), some (.ref b)] [] μ7))
  replace h := h μ7 e8
  refine v_aload_n hX dX7_copyOf_32 rfl (?_ : V X 33 [some (.ref a), some (.ref b)] [.ref a] μ7)
  refine v_aload_n hX dX7_copyOf_33 rfl (?_ : V X 34 [some (.ref a), some (.ref b)] [.ref b, .ref a] μ7)
  refine v_geti hX fk_X7_31 hb.1 rfl dX7_copyOf_34 (?_ : V X 37 [some (.ref a), some (.ref b)] [.int (gi μ7 b 4), .ref a] μ7)
  refine w_puti hX fk_X7_31 fw_7_4 ha.1 rfl dX7_copyOf_37 (fun μ9 e10 => (?_ : V X 40 [some (.ref a), some (.ref b)] [] μ9))
  replace h := h μ9 e10
  refine v_aload_n hX dX7_copyOf_40 rfl (?_ : V X 41 [some (.ref a), some (.ref b)] [.ref b] μ9)
  refine v_getr hX (b + 1) fk_X7_9 hb.1 rfl rfl dX7_copyOf_41 (?_ : V X 44 [some (.ref a), some (.ref b)] [.ref (b + 1)] μ9)
  refine v_iconst hX 0 dX7_copyOf_44 rfl (?_ : V X 45 [some (.ref a), some (.ref b)] [.int 0, .ref (b + 1)] μ9)
  refine v_aload_n hX dX7_copyOf_45 rfl (?_ : V X 46 [some (.ref a), some (.ref b)] [.ref a, .int 0, .ref (b + 1)] μ9)
  refine v_getr hX (a + 1) fk_X7_9 ha.1 rfl rfl dX7_copyOf_46 (?_ : V X 49 [some (.ref a), some (.ref b)] [.ref (a + 1), .int 0, .ref (b + 1)] μ9)
  refine v_iconst hX 0 dX7_copyOf_49 rfl (?_ : V X 50 [some (.ref a), some (.ref b)] [.int 0, .ref (a + 1), .int 0, .ref (b + 1)] μ9)
  refine v_iconst hX 5 dX7_copyOf_50 rfl (?_ : V X 51 [some (.ref a), some (.ref b)] [.int 5, .int 0, .ref (a + 1), .int 0, .ref (b + 1)] μ9)
  refine w_copy hX 5 mk_X7_37 hb.2.1 ha.2.1 (by decide) (by decide) (by decide) (Nat.le_of_ble_eq_true rfl) dX7_copyOf_51 (by decide) (by decide) (by decide) (by decide) (fun μ11 e12 => (?_ : V X 54 [some (.ref a), some (.ref b)] [] μ11))
  replace h := h μ11 e12
  refine v_aload_n hX dX7_copyOf_54 rfl (?_ : V X 55 [some (.ref a), some (.ref b)] [.ref b] μ11)
  refine v_getr hX (b + 2) fk_X7_15 hb.1 rfl rfl dX7_copyOf_55 (?_ : V X 58 [some (.ref a), some (.ref b)] [.ref (b + 2)] μ11)
  refine v_iconst hX 0 dX7_copyOf_58 rfl (?_ : V X 59 [some (.ref a), some (.ref b)] [.int 0, .ref (b + 2)] μ11)
  refine v_aload_n hX dX7_copyOf_59 rfl (?_ : V X 60 [some (.ref a), some (.ref b)] [.ref a, .int 0, .ref (b + 2)] μ11)
  refine v_getr hX (a + 2) fk_X7_15 ha.1 rfl rfl dX7_copyOf_60 (?_ : V X 63 [some (.ref a), some (.ref b)] [.ref (a + 2), .int 0, .ref (b + 2)] μ11)
  refine v_iconst hX 0 dX7_copyOf_63 rfl (?_ : V X 64 [some (.ref a), some (.ref b)] [.int 0, .ref (a + 2), .int 0, .ref (b + 2)] μ11)
  refine v_iconst hX 5 dX7_copyOf_64 rfl (?_ : V X 65 [some (.ref a), some (.ref b)] [.int 5, .int 0, .ref (a + 2), .int 0, .ref (b + 2)] μ11)
  refine w_copy hX 5 mk_X7_37 hb.2.2 ha.2.2 (by decide) (by decide) (by decide) (Nat.le_of_ble_eq_true rfl) dX7_copyOf_65 (by decide) (by decide) (by decide) (by decide) (fun μ13 e14 => (?_ : V X 68 [some (.ref a), some (.ref b)] [] μ13))
  replace h := h μ13 e14
  exact v_vret hO dX7_copyOf_68 (hR _ h)
set_option maxRecDepth 20000 in
set_option maxHeartbeats 4000000 in
theorem vp_X7_copyOf_0 (a : Nat) (b : Nat) (ha : isSc a) (hb : isSc b) (μ : Mem) (hpre : pre_X7_copyOf a b μ) : vc_X7_copyOf_0 a b μ (post_X7_copyOf a b μ)  := by
  simp only [vc_X7_copyOf_0, and_imp, call_eq, forall_eq, forall_const, true_and, and_true]
  unfold pre_X7_copyOf at hpre
  have n1 : b ≠ a := by omega
  have n2 : b + 1 ≠ a := by omega
  have n3 : b + 2 ≠ a := by omega
  have n4 : b + 1 ≠ a + 1 := by omega
  have n5 : b + 2 ≠ a + 1 := by omega
  refine ⟨⟨fun c hc k => ?_, rfl⟩, fun k hk => ?_, fun j hj => ?_, fun j hj => ?_⟩
  · simp only [List.mem_cons, List.not_mem_nil, or_false, not_or] at hc
    simp [gi_ua, gi_ui, hc]
  · have e1 : a ≠ a + 1 := by omega
    have e2 : a ≠ a + 2 := by omega
    simp only [gi_ua, gi_ui, n1, e1, e2, if_false, false_and, true_and]
    match k, hk with
    | 0, _ => simp
    | 1, _ => simp
    | 2, _ => simp
    | 3, _ => simp
    | 4, _ => simp
  · have e1 : a + 1 ≠ a + 2 := by omega
    simp [gi_ua, gi_ui, va_cpy, hj, n2, e1]
  · simp [gi_ua, gi_ui, va_cpy, hj, n3, n5]
theorem sp_X7_copyOf : Sp yX7_copyOf cX7_copyOf 2 none 2 S_X7_copyOf := by
  refine sp_of (by decide) (fun av μ P h => ?_) ?_
  · obtain ⟨a, b, rfl, -⟩ := h
    refine ⟨Nat.le_of_ble_eq_true rfl, fun v hv => ?_⟩
    simp only [List.mem_cons, List.not_mem_nil, or_false] at hv
    rcases hv with rfl | rfl <;> rfl
  · rintro X P hO _ μ ⟨a, b, rfl, ha, hb, hpre, hpost⟩ hn
    exact wk_X7_copyOf_0 hO hn a b ha hb μ hpost (vp_X7_copyOf_0 a b ha hb μ hpre)
def S_X7_takeDoing : Tr := fun av μ P => ∃ (w : Nat) (p1 : Int32) (p2 : Int32), av = [.ref 17, .ref w, .int p1, .int p2] ∧ (w = 3 ∨ w = 10) ∧ pre_X7_takeDoing w p1 p2 μ ∧ ∀ m : Mem, post_X7_takeDoing w p1 p2 μ m → P none m
def vc_X7_takeDoing_0 (w : Nat) (p1 : Int32) (p2 : Int32)  (μ : Mem) (R : Mem → Prop)  : Prop :=
  vp_in p2 5 ∧ (∀ μ2, μ2 = ui μ 17 2 ((gi μ 17 2) + (gi μ (w + 5) (Int32.toNatClampNeg p2))) → vp_in p1 5 ∧ (pre_X2_fullLoss w p1 p2 μ2 ∧ ∀ (x5 : Int32) (μ6 : Mem), post_X2_fullLoss w p1 p2 μ2 x5 μ6 → vp_in p1 5 ∧ ((¬ (gi μ6 19 (Int32.toNatClampNeg p1)) = p2 → (pre_X8_lossOf x5 0 μ6 ∧ ∀ (x10 : Int32) (μ11 : Mem), post_X8_lossOf x5 0 μ6 x10 μ11 → vp_in p1 5 ∧ (∀ μ14, μ14 = ui μ11 18 (Int32.toNatClampNeg p1) ((gi μ2 18 (Int32.toNatClampNeg p1)) - x10) → vp_in p1 5 ∧ (∀ μ17, μ17 = ui μ14 19 (Int32.toNatClampNeg p1) p2 → vp_in p1 5 ∧ ((0 ≤ (gi μ17 18 (Int32.toNatClampNeg p1)) → R μ17) ∧ (¬ 0 ≤ (gi μ17 18 (Int32.toNatClampNeg p1)) → (∀ μ21, μ21 = ui μ17 17 3 ((gi μ17 17 3) ||| (1 <<< (p1 &&& 31))) → (∀ μ23, μ23 = ui μ21 17 0 ((-9)) → R μ23)))))))) ∧ ((gi μ6 19 (Int32.toNatClampNeg p1)) = p2 → (pre_X8_lossOf x5 1 μ6 ∧ ∀ (x25 : Int32) (μ26 : Mem), post_X8_lossOf x5 1 μ6 x25 μ26 → vp_in p1 5 ∧ (∀ μ29, μ29 = ui μ26 18 (Int32.toNatClampNeg p1) ((gi μ2 18 (Int32.toNatClampNeg p1)) - x25) → vp_in p1 5 ∧ (∀ μ32, μ32 = ui μ29 19 (Int32.toNatClampNeg p1) p2 → vp_in p1 5 ∧ ((0 ≤ (gi μ32 18 (Int32.toNatClampNeg p1)) → R μ32) ∧ (¬ 0 ≤ (gi μ32 18 (Int32.toNatClampNeg p1)) → (∀ μ36, μ36 = ui μ32 17 3 ((gi μ32 17 3) ||| (1 <<< (p1 &&& 31))) → (∀ μ38, μ38 = ui μ36 17 0 ((-9)) → R μ38)))))))))))
set_option maxRecDepth 20000 in
set_option maxHeartbeats 4000000 in
theorem wk_X7_takeDoing_0 {X : XT} {P : Post} (hO : OkM X cX7_takeDoing RX7 1 none P) (hn : xn X = 4) (w : Nat) (p1 : Int32) (p2 : Int32) (hw : w = 3 ∨ w = 10)  (μ : Mem) {R : Mem → Prop} (hR : ∀ m, R m → P none m)    (h : vc_X7_takeDoing_0 w p1 p2  μ R ) : V X 0 [some (.ref 17), some (.ref w), some (.int p1), some (.int p2)] [] μ := by
  have hX := hO.1
  unfold vc_X7_takeDoing_0 at h
  refine v_aload_n hX dX7_takeDoing_0 rfl (?_ : V X 1 [some (.ref 17), some (.ref w), some (.int p1), some (.int p2)] [.ref 17] μ)
  refine v_dup hX dX7_takeDoing_1 rfl (?_ : V X 2 [some (.ref 17), some (.ref w), some (.int p1), some (.int p2)] [.ref 17, .ref 17] μ)
  refine v_geti hX fk_X7_25 sh_17 rfl dX7_takeDoing_2 (?_ : V X 5 [some (.ref 17), some (.ref w), some (.int p1), some (.int p2)] [.int (gi μ 17 2), .ref 17] μ)
  refine v_aload_n hX dX7_takeDoing_5 rfl (?_ : V X 6 [some (.ref 17), some (.ref w), some (.int p1), some (.int p2)] [.ref w, .int (gi μ 17 2), .ref 17] μ)
  refine v_getr hX (w + 5) fk_X7_59 (sHo hw) rfl rfl dX7_takeDoing_6 (?_ : V X 9 [some (.ref 17), some (.ref w), some (.int p1), some (.int p2)] [.ref (w + 5), .int (gi μ 17 2), .ref 17] μ)
  refine v_iload_n hX dX7_takeDoing_9 rfl (?_ : V X 10 [some (.ref 17), some (.ref w), some (.int p1), some (.int p2)] [.int p2, .ref (w + 5), .int (gi μ 17 2), .ref 17] μ)
  have hb1 := h.1
  replace h := h.2
  refine w_iald hX (Int32.toNatClampNeg p2) (sH5 hw) hb1 rfl dX7_takeDoing_10 (?_ : V X 11 [some (.ref 17), some (.ref w), some (.int p1), some (.int p2)] [.int (gi μ (w + 5) (Int32.toNatClampNeg p2)), .int (gi μ 17 2), .ref 17] μ)
  refine v_iadd hX dX7_takeDoing_11 (?_ : V X 12 [some (.ref 17), some (.ref w), some (.int p1), some (.int p2)] [.int ((gi μ 17 2) + (gi μ (w + 5) (Int32.toNatClampNeg p2))), .ref 17] μ)
  refine w_puti hX fk_X7_25 fw_7_2 sh_17 rfl dX7_takeDoing_12 (fun μ2 e3 => (?_ : V X 15 [some (.ref 17), some (.ref w), some (.int p1), some (.int p2)] [] μ2))
  replace h := h μ2 e3
  refine v_aload_n hX dX7_takeDoing_15 rfl (?_ : V X 16 [some (.ref 17), some (.ref w), some (.int p1), some (.int p2)] [.ref 17] μ2)
  refine v_getr hX (18) fk_X7_9 sh_17 rfl rfl dX7_takeDoing_16 (?_ : V X 19 [some (.ref 17), some (.ref w), some (.int p1), some (.int p2)] [.ref 18] μ2)
  refine v_iload_n hX dX7_takeDoing_19 rfl (?_ : V X 20 [some (.ref 17), some (.ref w), some (.int p1), some (.int p2)] [.int p1, .ref 18] μ2)
  refine v_dup2 hX dX7_takeDoing_20 rfl rfl (?_ : V X 21 [some (.ref 17), some (.ref w), some (.int p1), some (.int p2)] [.int p1, .ref 18, .int p1, .ref 18] μ2)
  have hb4 := h.1
  replace h := h.2
  refine w_iald hX (Int32.toNatClampNeg p1) sh_18 hb4 rfl dX7_takeDoing_21 (?_ : V X 22 [some (.ref 17), some (.ref w), some (.int p1), some (.int p2)] [.int (gi μ2 18 (Int32.toNatClampNeg p1)), .int p1, .ref 18] μ2)
  refine v_aload_n hX dX7_takeDoing_22 rfl (?_ : V X 23 [some (.ref 17), some (.ref w), some (.int p1), some (.int p2)] [.ref w, .int (gi μ2 18 (Int32.toNatClampNeg p1)), .int p1, .ref 18] μ2)
  refine v_iload_n hX dX7_takeDoing_23 rfl (?_ : V X 24 [some (.ref 17), some (.ref w), some (.int p1), some (.int p2)] [.int p1, .ref w, .int (gi μ2 18 (Int32.toNatClampNeg p1)), .int p1, .ref 18] μ2)
  refine v_iload_n hX dX7_takeDoing_24 rfl (?_ : V X 25 [some (.ref 17), some (.ref w), some (.int p1), some (.int p2)] [.int p2, .int p1, .ref w, .int (gi μ2 18 (Int32.toNatClampNeg p1)), .int p1, .ref 18] μ2)
  refine v_callV hX sp_X2_fullLoss ck_X2_fullLoss mk_X7_62 mv_X2_fullLoss (sHo hw) (by decide) (by decide) [.int p1, .int p2] [.int (gi μ2 18 (Int32.toNatClampNeg p1)), .int p1, .ref 18] rfl rfl (Nat.le_of_ble_eq_true rfl) dX7_takeDoing_25 ⟨w, p1, p2, rfl, hw, h.1, fun x5 μ6 hp7 => (?_ : V X 28 [some (.ref 17), some (.ref w), some (.int p1), some (.int p2)] [.int x5, .int (gi μ2 18 (Int32.toNatClampNeg p1)), .int p1, .ref 18] μ6)⟩
  replace h := h.2 x5 μ6 hp7
  refine v_aload_n hX dX7_takeDoing_28 rfl (?_ : V X 29 [some (.ref 17), some (.ref w), some (.int p1), some (.int p2)] [.ref 17, .int x5, .int (gi μ2 18 (Int32.toNatClampNeg p1)), .int p1, .ref 18] μ6)
  refine v_getr hX (19) fk_X7_15 sh_17 rfl rfl dX7_takeDoing_29 (?_ : V X 32 [some (.ref 17), some (.ref w), some (.int p1), some (.int p2)] [.ref 19, .int x5, .int (gi μ2 18 (Int32.toNatClampNeg p1)), .int p1, .ref 18] μ6)
  refine v_iload_n hX dX7_takeDoing_32 rfl (?_ : V X 33 [some (.ref 17), some (.ref w), some (.int p1), some (.int p2)] [.int p1, .ref 19, .int x5, .int (gi μ2 18 (Int32.toNatClampNeg p1)), .int p1, .ref 18] μ6)
  have hb8 := h.1
  replace h := h.2
  refine w_iald hX (Int32.toNatClampNeg p1) sh_19 hb8 rfl dX7_takeDoing_33 (?_ : V X 34 [some (.ref 17), some (.ref w), some (.int p1), some (.int p2)] [.int (gi μ6 19 (Int32.toNatClampNeg p1)), .int x5, .int (gi μ2 18 (Int32.toNatClampNeg p1)), .int p1, .ref 18] μ6)
  refine v_iload_n hX dX7_takeDoing_34 rfl (?_ : V X 35 [some (.ref 17), some (.ref w), some (.int p1), some (.int p2)] [.int p2, .int (gi μ6 19 (Int32.toNatClampNeg p1)), .int x5, .int (gi μ2 18 (Int32.toNatClampNeg p1)), .int p1, .ref 18] μ6)
  refine v_icmp_ne hX 42 dX7_takeDoing_35 rfl (fun c9 => ?_) (fun c9 => ?_)
  · replace h := h.1 c9
    refine v_iconst hX 0 dX7_takeDoing_42 rfl (?_ : V X 43 [some (.ref 17), some (.ref w), some (.int p1), some (.int p2)] [.int 0, .int x5, .int (gi μ2 18 (Int32.toNatClampNeg p1)), .int p1, .ref 18] μ6)
    refine v_callN hX sp_X8_lossOf ck_X8_lossOf hX.2.2.2.2.2.1.2.2.2.2.2.1 (mtb 1 (by decide +kernel) (by decide +kernel)) sk_X8_lossOf lossMd (by decide) [.int x5, .int 0] [.int (gi μ2 18 (Int32.toNatClampNeg p1)), .int p1, .ref 18] rfl rfl (Nat.le_of_ble_eq_true rfl) dX7_takeDoing_43 ⟨x5, 0, rfl, h.1, fun x10 μ11 hp12 => (?_ : V X 46 [some (.ref 17), some (.ref w), some (.int p1), some (.int p2)] [.int x10, .int (gi μ2 18 (Int32.toNatClampNeg p1)), .int p1, .ref 18] μ11)⟩
    replace h := h.2 x10 μ11 hp12
    refine v_isub hX dX7_takeDoing_46 (?_ : V X 47 [some (.ref 17), some (.ref w), some (.int p1), some (.int p2)] [.int ((gi μ2 18 (Int32.toNatClampNeg p1)) - x10), .int p1, .ref 18] μ11)
    have hb13 := h.1
    replace h := h.2
    refine w_iast hX (Int32.toNatClampNeg p1) sh_18 hb13 rfl dX7_takeDoing_47 (fun μ14 e15 => (?_ : V X 48 [some (.ref 17), some (.ref w), some (.int p1), some (.int p2)] [] μ14))
    replace h := h μ14 e15
    refine v_aload_n hX dX7_takeDoing_48 rfl (?_ : V X 49 [some (.ref 17), some (.ref w), some (.int p1), some (.int p2)] [.ref 17] μ14)
    refine v_getr hX (19) fk_X7_15 sh_17 rfl rfl dX7_takeDoing_49 (?_ : V X 52 [some (.ref 17), some (.ref w), some (.int p1), some (.int p2)] [.ref 19] μ14)
    refine v_iload_n hX dX7_takeDoing_52 rfl (?_ : V X 53 [some (.ref 17), some (.ref w), some (.int p1), some (.int p2)] [.int p1, .ref 19] μ14)
    refine v_iload_n hX dX7_takeDoing_53 rfl (?_ : V X 54 [some (.ref 17), some (.ref w), some (.int p1), some (.int p2)] [.int p2, .int p1, .ref 19] μ14)
    have hb16 := h.1
    replace h := h.2
    refine w_iast hX (Int32.toNatClampNeg p1) sh_19 hb16 rfl dX7_takeDoing_54 (fun μ17 e18 => (?_ : V X 55 [some (.ref 17), some (.ref w), some (.int p1), some (.int p2)] [] μ17))
    replace h := h μ17 e18
    refine v_aload_n hX dX7_takeDoing_55 rfl (?_ : V X 56 [some (.ref 17), some (.ref w), some (.int p1), some (.int p2)] [.ref 17] μ17)
    refine v_getr hX (18) fk_X7_9 sh_17 rfl rfl dX7_takeDoing_56 (?_ : V X 59 [some (.ref 17), some (.ref w), some (.int p1), some (.int p2)] [.ref 18] μ17)
    refine v_iload_n hX dX7_takeDoing_59 rfl (?_ : V X 60 [some (.ref 17), some (.ref w), some (.int p1), some (.int p2)] [.int p1, .ref 18] μ17)
    have hb19 := h.1
    replace h := h.2
    refine w_iald hX (Int32.toNatClampNeg p1) sh_18 hb19 rfl dX7_takeDoing_60 (?_ : V X 61 [some (.ref 17), some (.ref w), some (.int p1), some (.int p2)] [.int (gi μ17 18 (Int32.toNatClampNeg p1))] μ17)
    refine v_if_ge hX 82 dX7_takeDoing_61 rfl (fun c20 => ?_) (fun c20 => ?_)
    · replace h := h.1 c20
      exact v_vret hO dX7_takeDoing_82 (hR _ h)
    · replace h := h.2 c20
      refine v_aload_n hX dX7_takeDoing_64 rfl (?_ : V X 65 [some (.ref 17), some (.ref w), some (.int p1), some (.int p2)] [.ref 17] μ17)
      refine v_dup hX dX7_takeDoing_65 rfl (?_ : V X 66 [some (.ref 17), some (.ref w), some (.int p1), some (.int p2)] [.ref 17, .ref 17] μ17)
      refine v_geti hX fk_X7_28 sh_17 rfl dX7_takeDoing_66 (?_ : V X 69 [some (.ref 17), some (.ref w), some (.int p1), some (.int p2)] [.int (gi μ17 17 3), .ref 17] μ17)
      refine v_iconst hX 1 dX7_takeDoing_69 rfl (?_ : V X 70 [some (.ref 17), some (.ref w), some (.int p1), some (.int p2)] [.int 1, .int (gi μ17 17 3), .ref 17] μ17)
      refine v_iload_n hX dX7_takeDoing_70 rfl (?_ : V X 71 [some (.ref 17), some (.ref w), some (.int p1), some (.int p2)] [.int p1, .int 1, .int (gi μ17 17 3), .ref 17] μ17)
      refine v_ishl hX dX7_takeDoing_71 (?_ : V X 72 [some (.ref 17), some (.ref w), some (.int p1), some (.int p2)] [.int (1 <<< (p1 &&& 31)), .int (gi μ17 17 3), .ref 17] μ17)
      refine v_ior hX dX7_takeDoing_72 (?_ : V X 73 [some (.ref 17), some (.ref w), some (.int p1), some (.int p2)] [.int ((gi μ17 17 3) ||| (1 <<< (p1 &&& 31))), .ref 17] μ17)
      refine w_puti hX fk_X7_28 fw_7_3 sh_17 rfl dX7_takeDoing_73 (fun μ21 e22 => (?_ : V X 76 [some (.ref 17), some (.ref w), some (.int p1), some (.int p2)] [] μ21))
      replace h := h μ21 e22
      refine v_aload_n hX dX7_takeDoing_76 rfl (?_ : V X 77 [some (.ref 17), some (.ref w), some (.int p1), some (.int p2)] [.ref 17] μ21)
      refine v_bipush hX (-9) dX7_takeDoing_77 rfl (?_ : V X 79 [some (.ref 17), some (.ref w), some (.int p1), some (.int p2)] [.int ((-9)), .ref 17] μ21)
      refine w_puti hX fk_X7_18 fw_7_0 sh_17 rfl dX7_takeDoing_79 (fun μ23 e24 => (?_ : V X 82 [some (.ref 17), some (.ref w), some (.int p1), some (.int p2)] [] μ23))
      replace h := h μ23 e24
      exact v_vret hO dX7_takeDoing_82 (hR _ h)
  · replace h := h.2 c9
    refine v_iconst hX 1 dX7_takeDoing_38 rfl (?_ : V X 39 [some (.ref 17), some (.ref w), some (.int p1), some (.int p2)] [.int 1, .int x5, .int (gi μ2 18 (Int32.toNatClampNeg p1)), .int p1, .ref 18] μ6)
    refine v_goto hX 43 dX7_takeDoing_39 rfl (?_ : V X 43 [some (.ref 17), some (.ref w), some (.int p1), some (.int p2)] [.int 1, .int x5, .int (gi μ2 18 (Int32.toNatClampNeg p1)), .int p1, .ref 18] μ6)
    refine v_callN hX sp_X8_lossOf ck_X8_lossOf hX.2.2.2.2.2.1.2.2.2.2.2.1 (mtb 1 (by decide +kernel) (by decide +kernel)) sk_X8_lossOf lossMd (by decide) [.int x5, .int 1] [.int (gi μ2 18 (Int32.toNatClampNeg p1)), .int p1, .ref 18] rfl rfl (Nat.le_of_ble_eq_true rfl) dX7_takeDoing_43 ⟨x5, 1, rfl, h.1, fun x25 μ26 hp27 => (?_ : V X 46 [some (.ref 17), some (.ref w), some (.int p1), some (.int p2)] [.int x25, .int (gi μ2 18 (Int32.toNatClampNeg p1)), .int p1, .ref 18] μ26)⟩
    replace h := h.2 x25 μ26 hp27
    refine v_isub hX dX7_takeDoing_46 (?_ : V X 47 [some (.ref 17), some (.ref w), some (.int p1), some (.int p2)] [.int ((gi μ2 18 (Int32.toNatClampNeg p1)) - x25), .int p1, .ref 18] μ26)
    have hb28 := h.1
    replace h := h.2
    refine w_iast hX (Int32.toNatClampNeg p1) sh_18 hb28 rfl dX7_takeDoing_47 (fun μ29 e30 => (?_ : V X 48 [some (.ref 17), some (.ref w), some (.int p1), some (.int p2)] [] μ29))
    replace h := h μ29 e30
    refine v_aload_n hX dX7_takeDoing_48 rfl (?_ : V X 49 [some (.ref 17), some (.ref w), some (.int p1), some (.int p2)] [.ref 17] μ29)
    refine v_getr hX (19) fk_X7_15 sh_17 rfl rfl dX7_takeDoing_49 (?_ : V X 52 [some (.ref 17), some (.ref w), some (.int p1), some (.int p2)] [.ref 19] μ29)
    refine v_iload_n hX dX7_takeDoing_52 rfl (?_ : V X 53 [some (.ref 17), some (.ref w), some (.int p1), some (.int p2)] [.int p1, .ref 19] μ29)
    refine v_iload_n hX dX7_takeDoing_53 rfl (?_ : V X 54 [some (.ref 17), some (.ref w), some (.int p1), some (.int p2)] [.int p2, .int p1, .ref 19] μ29)
    have hb31 := h.1
    replace h := h.2
    refine w_iast hX (Int32.toNatClampNeg p1) sh_19 hb31 rfl dX7_takeDoing_54 (fun μ32 e33 => (?_ : V X 55 [some (.ref 17), some (.ref w), some (.int p1), some (.int p2)] [] μ32))
    replace h := h μ32 e33
    refine v_aload_n hX dX7_takeDoing_55 rfl (?_ : V X 56 [some (.ref 17), some (.ref w), some (.int p1), some (.int p2)] [.ref 17] μ32)
    refine v_getr hX (18) fk_X7_9 sh_17 rfl rfl dX7_takeDoing_56 (?_ : V X 59 [some (.ref 17), some (.ref w), some (.int p1), some (.int p2)] [.ref 18] μ32)
    refine v_iload_n hX dX7_takeDoing_59 rfl (?_ : V X 60 [some (.ref 17), some (.ref w), some (.int p1), some (.int p2)] [.int p1, .ref 18] μ32)
    have hb34 := h.1
    replace h := h.2
    refine w_iald hX (Int32.toNatClampNeg p1) sh_18 hb34 rfl dX7_takeDoing_60 (?_ : V X 61 [some (.ref 17), some (.ref w), some (.int p1), some (.int p2)] [.int (gi μ32 18 (Int32.toNatClampNeg p1))] μ32)
    refine v_if_ge hX 82 dX7_takeDoing_61 rfl (fun c35 => ?_) (fun c35 => ?_)
    · replace h := h.1 c35
      exact v_vret hO dX7_takeDoing_82 (hR _ h)
    · replace h := h.2 c35
      refine v_aload_n hX dX7_takeDoing_64 rfl (?_ : V X 65 [some (.ref 17), some (.ref w), some (.int p1), some (.int p2)] [.ref 17] μ32)
      refine v_dup hX dX7_takeDoing_65 rfl (?_ : V X 66 [some (.ref 17), some (.ref w), some (.int p1), some (.int p2)] [.ref 17, .ref 17] μ32)
      refine v_geti hX fk_X7_28 sh_17 rfl dX7_takeDoing_66 (?_ : V X 69 [some (.ref 17), some (.ref w), some (.int p1), some (.int p2)] [.int (gi μ32 17 3), .ref 17] μ32)
      refine v_iconst hX 1 dX7_takeDoing_69 rfl (?_ : V X 70 [some (.ref 17), some (.ref w), some (.int p1), some (.int p2)] [.int 1, .int (gi μ32 17 3), .ref 17] μ32)
      refine v_iload_n hX dX7_takeDoing_70 rfl (?_ : V X 71 [some (.ref 17), some (.ref w), some (.int p1), some (.int p2)] [.int p1, .int 1, .int (gi μ32 17 3), .ref 17] μ32)
      refine v_ishl hX dX7_takeDoing_71 (?_ : V X 72 [some (.ref 17), some (.ref w), some (.int p1), some (.int p2)] [.int (1 <<< (p1 &&& 31)), .int (gi μ32 17 3), .ref 17] μ32)
      refine v_ior hX dX7_takeDoing_72 (?_ : V X 73 [some (.ref 17), some (.ref w), some (.int p1), some (.int p2)] [.int ((gi μ32 17 3) ||| (1 <<< (p1 &&& 31))), .ref 17] μ32)
      refine w_puti hX fk_X7_28 fw_7_3 sh_17 rfl dX7_takeDoing_73 (fun μ36 e37 => (?_ : V X 76 [some (.ref 17), some (.ref w), some (.int p1), some (.int p2)] [] μ36))
      replace h := h μ36 e37
      refine v_aload_n hX dX7_takeDoing_76 rfl (?_ : V X 77 [some (.ref 17), some (.ref w), some (.int p1), some (.int p2)] [.ref 17] μ36)
      refine v_bipush hX (-9) dX7_takeDoing_77 rfl (?_ : V X 79 [some (.ref 17), some (.ref w), some (.int p1), some (.int p2)] [.int ((-9)), .ref 17] μ36)
      refine w_puti hX fk_X7_18 fw_7_0 sh_17 rfl dX7_takeDoing_79 (fun μ38 e39 => (?_ : V X 82 [some (.ref 17), some (.ref w), some (.int p1), some (.int p2)] [] μ38))
      replace h := h μ38 e39
      exact v_vret hO dX7_takeDoing_82 (hR _ h)
set_option maxRecDepth 20000 in
set_option maxHeartbeats 4000000 in
theorem vp_X7_takeDoing_0 (w : Nat) (p1 : Int32) (p2 : Int32) (hw : w = 3 ∨ w = 10) (μ : Mem) (hpre : pre_X7_takeDoing w p1 p2 μ) : vc_X7_takeDoing_0 w p1 p2 μ (post_X7_takeDoing w p1 p2 μ)  := by
  unfold vc_X7_takeDoing_0
  unfold pre_X7_takeDoing at hpre
  obtain ⟨h1, h2⟩ := hpre
  have w4 : w + 4 ≠ 17 := by omega
  have w2 : w + 2 ≠ 17 := by omega
  have w5 : w + 5 ≠ 17 := by omega
  have hu := tk_end (w := w) (p1 := p1) (p2 := p2) μ
  refine ⟨h2, ?_⟩
  intro μ2 e2
  refine ⟨h1, ⟨h1, h2⟩, ?_⟩
  rintro x5 μ6 ⟨hx5, rfl⟩
  have e1 : gi μ6 (w + 4) p2.toNatClampNeg = gi μ (w + 4) p2.toNatClampNeg := by simp [e2, gi_ui, w4]
  have e5 : gi μ6 (w + 2) p1.toNatClampNeg = gi μ (w + 2) p1.toNatClampNeg := by simp [e2, gi_ui, w2]
  have e3 : gi μ6 19 p1.toNatClampNeg = gi μ 19 p1.toNatClampNeg := by simp [e2, gi_ui]
  have e4 : gi μ6 18 p1.toNatClampNeg = gi μ 18 p1.toNatClampNeg := by simp [e2, gi_ui]
  rw [e1, e5] at hx5
  rw [e3, e4]
  refine ⟨h1, fun c => ⟨trivial, ?_⟩, fun c => ⟨trivial, ?_⟩⟩
  · rintro x10 μ11 ⟨hx10, rfl⟩
    refine ⟨h1, ?_⟩
    intro μ14 e14
    refine ⟨h1, ?_⟩
    intro μ17 e17
    rw [if_pos rfl, hx5] at hx10
    have q := hu x10 μ17 (by rw [hx10]; unfold lossC; rw [if_neg c]) (by rw [e17, e14, e2])
    exact ⟨h1, q.1, fun c2 => by rintro _ rfl _ rfl; exact q.2 c2⟩
  · rintro x10 μ11 ⟨hx10, rfl⟩
    refine ⟨h1, ?_⟩
    intro μ14 e14
    refine ⟨h1, ?_⟩
    intro μ17 e17
    rw [if_neg (by decide), hx5] at hx10
    have q := hu x10 μ17 (by rw [hx10]; unfold lossC; rw [if_pos c]) (by rw [e17, e14, e2])
    exact ⟨h1, q.1, fun c2 => by rintro _ rfl _ rfl; exact q.2 c2⟩
theorem sp_X7_takeDoing : Sp yX7_takeDoing cX7_takeDoing 4 none 1 S_X7_takeDoing := by
  refine sp_of (by decide) (fun av μ P h => ?_) ?_
  · obtain ⟨w, p1, p2, rfl, -⟩ := h
    refine ⟨Nat.le_of_ble_eq_true rfl, fun v hv => ?_⟩
    simp only [List.mem_cons, List.not_mem_nil, or_false] at hv
    rcases hv with rfl | rfl | rfl | rfl <;> rfl
  · rintro X P hO _ μ ⟨w, p1, p2, rfl, hw, hpre, hpost⟩ hn
    exact wk_X7_takeDoing_0 hO hn w p1 p2 hw μ hpost (vp_X7_takeDoing_0 w p1 p2 hw μ hpre)
def S_X5_remember : Tr := fun av μ P => av = [.ref 20, .ref 17] ∧ pre_X5_remember  μ ∧ ∀ m : Mem, post_X5_remember  μ m → P none m
def vc_X5_remember_0   (μ : Mem) (R : Mem → Prop)  : Prop :=
  vp_in (gi μ 20 1) 10 ∧ (pre_X7_copyOf (21 + 1 + 3 * (Int32.toNatClampNeg (gi μ 20 1))) 17 μ ∧ ∀ (μ3 : Mem), post_X7_copyOf (21 + 1 + 3 * (Int32.toNatClampNeg (gi μ 20 1))) 17 μ μ3 → (∀ μ5, μ5 = ui μ3 20 1 (((gi μ3 20 1) + 1) - ((gi μ3 20 1) + 1) / 10 * 10) → (∀ μ7, μ7 = ui μ5 20 2 (if 10 < ((gi μ5 20 2) + 1) then 10 else ((gi μ5 20 2) + 1)) → R μ7)))
set_option maxRecDepth 20000 in
set_option maxHeartbeats 4000000 in
theorem wk_X5_remember_0 {X : XT} {P : Post} (hO : OkM X cX5_remember RX5 3 none P) (hn : xn X = 2)    (μ : Mem) {R : Mem → Prop} (hR : ∀ m, R m → P none m)    (h : vc_X5_remember_0   μ R ) : V X 0 [some (.ref 20), some (.ref 17)] [] μ := by
  have hX := hO.1
  unfold vc_X5_remember_0 at h
  refine v_aload_n hX dX5_remember_0 rfl (?_ : V X 1 [some (.ref 20), some (.ref 17)] [.ref 20] μ)
  refine v_getr hX (21) fk_X5_11 sh_20 rfl rfl dX5_remember_1 (?_ : V X 4 [some (.ref 20), some (.ref 17)] [.ref 21] μ)
  refine v_aload_n hX dX5_remember_4 rfl (?_ : V X 5 [some (.ref 20), some (.ref 17)] [.ref 20, .ref 21] μ)
  refine v_geti hX fk_X5_18 sh_20 rfl dX5_remember_5 (?_ : V X 8 [some (.ref 20), some (.ref 17)] [.int (gi μ 20 1), .ref 21] μ)
  have hb1 := h.1
  replace h := h.2
  refine v_aald hX sh_21 hb1 dX5_remember_8 (?_ : V X 9 [some (.ref 20), some (.ref 17)] [.ref (21 + 1 + 3 * (Int32.toNatClampNeg (gi μ 20 1)))] μ)
  refine v_aload_n hX dX5_remember_9 rfl (?_ : V X 10 [some (.ref 20), some (.ref 17)] [.ref 17, .ref (21 + 1 + 3 * (Int32.toNatClampNeg (gi μ 20 1)))] μ)
  refine v_callV hX sp_X7_copyOf ck_X7_copyOf mk_X5_25 mv_X7_copyOf (sc_past hb1).1 (by decide) (by decide) [.ref 17] [] rfl rfl (Nat.le_of_ble_eq_true rfl) dX5_remember_10 ⟨(21 + 1 + 3 * (Int32.toNatClampNeg (gi μ 20 1))), 17, rfl, (sc_past hb1), sc_17, h.1, fun μ3 hp4 => (?_ : V X 13 [some (.ref 20), some (.ref 17)] [] μ3)⟩
  replace h := h.2 μ3 hp4
  refine v_aload_n hX dX5_remember_13 rfl (?_ : V X 14 [some (.ref 20), some (.ref 17)] [.ref 20] μ3)
  refine v_aload_n hX dX5_remember_14 rfl (?_ : V X 15 [some (.ref 20), some (.ref 17)] [.ref 20, .ref 20] μ3)
  refine v_geti hX fk_X5_18 sh_20 rfl dX5_remember_15 (?_ : V X 18 [some (.ref 20), some (.ref 17)] [.int (gi μ3 20 1), .ref 20] μ3)
  refine v_iconst hX 1 dX5_remember_18 rfl (?_ : V X 19 [some (.ref 20), some (.ref 17)] [.int 1, .int (gi μ3 20 1), .ref 20] μ3)
  refine v_iadd hX dX5_remember_19 (?_ : V X 20 [some (.ref 20), some (.ref 17)] [.int ((gi μ3 20 1) + 1), .ref 20] μ3)
  refine v_bipush hX 10 dX5_remember_20 rfl (?_ : V X 22 [some (.ref 20), some (.ref 17)] [.int 10, .int ((gi μ3 20 1) + 1), .ref 20] μ3)
  refine v_irem hX dX5_remember_22 (by decide) (?_ : V X 23 [some (.ref 20), some (.ref 17)] [.int (((gi μ3 20 1) + 1) - ((gi μ3 20 1) + 1) / 10 * 10), .ref 20] μ3)
  refine w_puti hX fk_X5_18 fw_5_1 sh_20 rfl dX5_remember_23 (fun μ5 e6 => (?_ : V X 26 [some (.ref 20), some (.ref 17)] [] μ5))
  replace h := h μ5 e6
  refine v_aload_n hX dX5_remember_26 rfl (?_ : V X 27 [some (.ref 20), some (.ref 17)] [.ref 20] μ5)
  refine v_aload_n hX dX5_remember_27 rfl (?_ : V X 28 [some (.ref 20), some (.ref 17)] [.ref 20, .ref 20] μ5)
  refine v_geti hX fk_X5_22 sh_20 rfl dX5_remember_28 (?_ : V X 31 [some (.ref 20), some (.ref 17)] [.int (gi μ5 20 2), .ref 20] μ5)
  refine v_iconst hX 1 dX5_remember_31 rfl (?_ : V X 32 [some (.ref 20), some (.ref 17)] [.int 1, .int (gi μ5 20 2), .ref 20] μ5)
  refine v_iadd hX dX5_remember_32 (?_ : V X 33 [some (.ref 20), some (.ref 17)] [.int ((gi μ5 20 2) + 1), .ref 20] μ5)
  refine v_bipush hX 10 dX5_remember_33 rfl (?_ : V X 35 [some (.ref 20), some (.ref 17)] [.int 10, .int ((gi μ5 20 2) + 1), .ref 20] μ5)
  refine v_mmin hX mk_X5_29 twMin (by decide) (Nat.le_of_ble_eq_true rfl) dX5_remember_35 (?_ : V X 38 [some (.ref 20), some (.ref 17)] [.int (if 10 < ((gi μ5 20 2) + 1) then 10 else ((gi μ5 20 2) + 1)), .ref 20] μ5)
  refine w_puti hX fk_X5_22 fw_5_2 sh_20 rfl dX5_remember_38 (fun μ7 e8 => (?_ : V X 41 [some (.ref 20), some (.ref 17)] [] μ7))
  replace h := h μ7 e8
  exact v_vret hO dX5_remember_41 (hR _ h)
set_option maxRecDepth 20000 in
set_option maxHeartbeats 4000000 in
theorem vp_X5_remember_0   (μ : Mem) (hpre : pre_X5_remember  μ) : vc_X5_remember_0  μ (post_X5_remember  μ)  := by
  unfold vc_X5_remember_0
  obtain ⟨⟨h1, h1b⟩, h2, h2b⟩ := hpre
  have ht : (gi μ 20 1).toNatClampNeg = gn μ 20 1 := rfl
  rw [ht]
  refine ⟨by rw [h1]; exact vp_in_nI (by omega) (by omega), by unfold pre_X7_copyOf; omega, fun m hp => ?_⟩
  obtain ⟨⟨hf1, hf2⟩, hc⟩ := hp
  have e22 : 21 + 1 + 3 * gn μ 20 1 = 22 + 3 * gn μ 20 1 := rfl
  rw [e22] at hf1 hc
  have hk : ∀ k, gi m 20 k = gi μ 20 k := fun k => hf1 20 (by simp; omega) k
  rintro _ rfl _ rfl
  have d1 : 22 + 3 * gn μ 20 1 ≠ 20 := by omega
  have d2 : 22 + 3 * gn μ 20 1 + 1 ≠ 20 := by omega
  have d3 : 22 + 3 * gn μ 20 1 + 2 ≠ 20 := by omega
  refine ⟨⟨fun c hq k => ?_, hf2⟩, ⟨fun k hk => ?_, fun j hj => ?_, fun j hj => ?_⟩, ?_, ?_⟩
  · simp only [List.mem_cons, List.not_mem_nil, or_false, not_or] at hq
    rw [← hf1 c (by simp [hq])]
    simp [gi_ui, hq]
  · rw [← hc.1 k hk]; simp [gi_ui, d1]
  · rw [← hc.2.1 j hj]; simp [gi_ui, d2]
  · rw [← hc.2.2 j hj]; simp [gi_ui, d3]
  · simp only [gi_ui, hk]
    simp only [h1, Nat.reduceEqDiff, and_false, if_false, and_self, if_true]
    have e10 : (10 : Int32) = nI 10 := rfl
    rw [e10, nI_1, pk_rem (by omega) (by omega) (by omega)]
  · simp only [gi_ui, hk]
    simp only [h2, Nat.reduceEqDiff, and_false, if_false, and_self, if_true]
    have e10 : (10 : Int32) = nI 10 := rfl
    rw [e10, nI_1]
    split
    · rename_i hlt
      have := (nI_ltI (by omega) (by omega)).mp hlt
      rw [Nat.min_eq_right (by omega)]
    · rename_i hlt
      have : ¬ 10 < gn μ 20 2 + 1 := fun q => hlt ((nI_ltI (by omega) (by omega)).mpr q)
      rw [Nat.min_eq_left (by omega)]
theorem sp_X5_remember : Sp yX5_remember cX5_remember 2 none 3 S_X5_remember := by
  refine sp_of (by decide) (fun av μ P h => ?_) ?_
  · obtain ⟨rfl, -⟩ := h
    refine ⟨Nat.le_of_ble_eq_true rfl, fun v hv => ?_⟩
    simp only [List.mem_cons, List.not_mem_nil, or_false] at hv
    rcases hv with rfl | rfl <;> rfl
  · rintro X P hO _ μ ⟨rfl, hpre, hpost⟩ hn
    exact wk_X5_remember_0 hO hn   μ hpost (vp_X5_remember_0   μ hpre)
def S_X5_restore : Tr := fun av μ P => av = [.ref 20, .ref 17] ∧ pre_X5_restore  μ ∧ ∀ m : Mem, post_X5_restore  μ m → P none m
def vc_X5_restore_0   (μ : Mem) (R : Mem → Prop)  : Prop :=
  (∀ μ1, μ1 = ui μ 20 1 ((((gi μ 20 1) + 10) - 1) - (((gi μ 20 1) + 10) - 1) / 10 * 10) → vp_in (gi μ1 20 1) 10 ∧ (pre_X7_copyOf 17 (21 + 1 + 3 * (Int32.toNatClampNeg (gi μ1 20 1))) μ1 ∧ ∀ (μ5 : Mem), post_X7_copyOf 17 (21 + 1 + 3 * (Int32.toNatClampNeg (gi μ1 20 1))) μ1 μ5 → (∀ μ7, μ7 = ui μ5 20 2 ((gi μ5 20 2) - 1) → R μ7)))
set_option maxRecDepth 20000 in
set_option maxHeartbeats 4000000 in
theorem wk_X5_restore_0 {X : XT} {P : Post} (hO : OkM X cX5_restore RX5 3 none P) (hn : xn X = 2)    (μ : Mem) {R : Mem → Prop} (hR : ∀ m, R m → P none m)    (h : vc_X5_restore_0   μ R ) : V X 0 [some (.ref 20), some (.ref 17)] [] μ := by
  have hX := hO.1
  unfold vc_X5_restore_0 at h
  refine v_aload_n hX dX5_restore_0 rfl (?_ : V X 1 [some (.ref 20), some (.ref 17)] [.ref 20] μ)
  refine v_aload_n hX dX5_restore_1 rfl (?_ : V X 2 [some (.ref 20), some (.ref 17)] [.ref 20, .ref 20] μ)
  refine v_geti hX fk_X5_18 sh_20 rfl dX5_restore_2 (?_ : V X 5 [some (.ref 20), some (.ref 17)] [.int (gi μ 20 1), .ref 20] μ)
  refine v_bipush hX 10 dX5_restore_5 rfl (?_ : V X 7 [some (.ref 20), some (.ref 17)] [.int 10, .int (gi μ 20 1), .ref 20] μ)
  refine v_iadd hX dX5_restore_7 (?_ : V X 8 [some (.ref 20), some (.ref 17)] [.int ((gi μ 20 1) + 10), .ref 20] μ)
  refine v_iconst hX 1 dX5_restore_8 rfl (?_ : V X 9 [some (.ref 20), some (.ref 17)] [.int 1, .int ((gi μ 20 1) + 10), .ref 20] μ)
  refine v_isub hX dX5_restore_9 (?_ : V X 10 [some (.ref 20), some (.ref 17)] [.int (((gi μ 20 1) + 10) - 1), .ref 20] μ)
  refine v_bipush hX 10 dX5_restore_10 rfl (?_ : V X 12 [some (.ref 20), some (.ref 17)] [.int 10, .int (((gi μ 20 1) + 10) - 1), .ref 20] μ)
  refine v_irem hX dX5_restore_12 (by decide) (?_ : V X 13 [some (.ref 20), some (.ref 17)] [.int ((((gi μ 20 1) + 10) - 1) - (((gi μ 20 1) + 10) - 1) / 10 * 10), .ref 20] μ)
  refine w_puti hX fk_X5_18 fw_5_1 sh_20 rfl dX5_restore_13 (fun μ1 e2 => (?_ : V X 16 [some (.ref 20), some (.ref 17)] [] μ1))
  replace h := h μ1 e2
  refine v_aload_n hX dX5_restore_16 rfl (?_ : V X 17 [some (.ref 20), some (.ref 17)] [.ref 17] μ1)
  refine v_aload_n hX dX5_restore_17 rfl (?_ : V X 18 [some (.ref 20), some (.ref 17)] [.ref 20, .ref 17] μ1)
  refine v_getr hX (21) fk_X5_11 sh_20 rfl rfl dX5_restore_18 (?_ : V X 21 [some (.ref 20), some (.ref 17)] [.ref 21, .ref 17] μ1)
  refine v_aload_n hX dX5_restore_21 rfl (?_ : V X 22 [some (.ref 20), some (.ref 17)] [.ref 20, .ref 21, .ref 17] μ1)
  refine v_geti hX fk_X5_18 sh_20 rfl dX5_restore_22 (?_ : V X 25 [some (.ref 20), some (.ref 17)] [.int (gi μ1 20 1), .ref 21, .ref 17] μ1)
  have hb3 := h.1
  replace h := h.2
  refine v_aald hX sh_21 hb3 dX5_restore_25 (?_ : V X 26 [some (.ref 20), some (.ref 17)] [.ref (21 + 1 + 3 * (Int32.toNatClampNeg (gi μ1 20 1))), .ref 17] μ1)
  refine v_callV hX sp_X7_copyOf ck_X7_copyOf mk_X5_25 mv_X7_copyOf sh_17 (by decide) (by decide) [.ref (21 + 1 + 3 * (Int32.toNatClampNeg (gi μ1 20 1)))] [] rfl rfl (Nat.le_of_ble_eq_true rfl) dX5_restore_26 ⟨17, (21 + 1 + 3 * (Int32.toNatClampNeg (gi μ1 20 1))), rfl, sc_17, (sc_past hb3), h.1, fun μ5 hp6 => (?_ : V X 29 [some (.ref 20), some (.ref 17)] [] μ5)⟩
  replace h := h.2 μ5 hp6
  refine v_aload_n hX dX5_restore_29 rfl (?_ : V X 30 [some (.ref 20), some (.ref 17)] [.ref 20] μ5)
  refine v_dup hX dX5_restore_30 rfl (?_ : V X 31 [some (.ref 20), some (.ref 17)] [.ref 20, .ref 20] μ5)
  refine v_geti hX fk_X5_22 sh_20 rfl dX5_restore_31 (?_ : V X 34 [some (.ref 20), some (.ref 17)] [.int (gi μ5 20 2), .ref 20] μ5)
  refine v_iconst hX 1 dX5_restore_34 rfl (?_ : V X 35 [some (.ref 20), some (.ref 17)] [.int 1, .int (gi μ5 20 2), .ref 20] μ5)
  refine v_isub hX dX5_restore_35 (?_ : V X 36 [some (.ref 20), some (.ref 17)] [.int ((gi μ5 20 2) - 1), .ref 20] μ5)
  refine w_puti hX fk_X5_22 fw_5_2 sh_20 rfl dX5_restore_36 (fun μ7 e8 => (?_ : V X 39 [some (.ref 20), some (.ref 17)] [] μ7))
  replace h := h μ7 e8
  exact v_vret hO dX5_restore_39 (hR _ h)
set_option maxRecDepth 20000 in
set_option maxHeartbeats 4000000 in
theorem vp_X5_restore_0   (μ : Mem) (hpre : pre_X5_restore  μ) : vc_X5_restore_0  μ (post_X5_restore  μ)  := by
  unfold vc_X5_restore_0
  obtain ⟨⟨h1, h1b⟩, ⟨h2, h2b⟩, h3⟩ := hpre
  intro μ1 e1
  have hk1 : gi μ1 20 1 = nI ((gn μ 20 1 + 9) % 10) := by
    simp only [e1, gi_ui, and_self, if_true]
    rw [h1]
    have e10 : (10 : Int32) = nI 10 := rfl
    rw [e10, nI_add, show gn μ 20 1 + 10 = (gn μ 20 1 + 9) + 1 from rfl, nI_pred, pk_rem (by omega) (by omega) (by omega)]
  have ht : (gi μ1 20 1).toNatClampNeg = (gn μ 20 1 + 9) % 10 := by rw [hk1, nI_clamp (by omega)]
  rw [ht]
  refine ⟨by rw [hk1]; exact vp_in_nI (by omega) (by omega), by unfold pre_X7_copyOf; omega, fun m hp => ?_⟩
  obtain ⟨⟨hf1, hf2⟩, hc⟩ := hp
  have e22 : 21 + 1 + 3 * ((gn μ 20 1 + 9) % 10) = 22 + 3 * ((gn μ 20 1 + 9) % 10) := rfl
  rw [e22] at hc
  rintro _ rfl
  refine ⟨⟨fun c hq k => ?_, ?_⟩, ⟨fun k hk => ?_, fun j hj => ?_, fun j hj => ?_⟩, ?_, ?_⟩
  · simp only [List.mem_cons, List.not_mem_nil, or_false, not_or] at hq
    rw [gi_ui, if_neg (by simp [hq]), hf1 c (by simp [hq]), e1, gi_ui, if_neg (by simp [hq])]
  · show m.2 = μ.2
    rw [hf2, e1]; rfl
  · rw [gi_ui, if_neg (by simp), hc.1 k hk, e1, gi_ui, if_neg (by omega)]
  · rw [gi_ui, if_neg (by simp), hc.2.1 j hj, e1, gi_ui, if_neg (by omega)]
  · rw [gi_ui, if_neg (by simp), hc.2.2 j hj, e1, gi_ui, if_neg (by omega)]
  · rw [gi_ui, if_neg (by simp), hf1 20 (by decide), hk1]
  · rw [gi_ui, if_pos ⟨rfl, rfl⟩, hf1 20 (by decide), e1, gi_ui, if_neg (by simp), h2]
    obtain ⟨q, hq⟩ : ∃ q, gn μ 20 2 = q + 1 := ⟨gn μ 20 2 - 1, by omega⟩
    rw [hq, nI_pred]; rfl
theorem sp_X5_restore : Sp yX5_restore cX5_restore 2 none 3 S_X5_restore := by
  refine sp_of (by decide) (fun av μ P h => ?_) ?_
  · obtain ⟨rfl, -⟩ := h
    refine ⟨Nat.le_of_ble_eq_true rfl, fun v hv => ?_⟩
    simp only [List.mem_cons, List.not_mem_nil, or_false] at hv
    rcases hv with rfl | rfl <;> rfl
  · rintro X P hO _ μ ⟨rfl, hpre, hpost⟩ hn
    exact wk_X5_restore_0 hO hn   μ hpost (vp_X5_restore_0   μ hpre)
def S_X4_add : Tr := fun av μ P => ∃ (p1 : Int32) (p2 : Int32), av = [.ref 71, .int p1, .int p2] ∧ pre_X4_add p1 p2 μ ∧ ∀ m : Mem, post_X4_add p1 p2 μ m → P none m
def vc_X4_add_0 (p1 : Int32) (p2 : Int32)  (μ : Mem) (R : Mem → Prop)  : Prop :=
  ((5 ≤ (gi μ 71 2) → R μ) ∧ (¬ 5 ≤ (gi μ 71 2) → vp_in (gi μ 71 2) 5 ∧ (∀ μ3, μ3 = ui μ 72 (Int32.toNatClampNeg (gi μ 71 2)) p1 → vp_in (gi μ3 71 2) 5 ∧ (∀ μ6, μ6 = ui μ3 73 (Int32.toNatClampNeg (gi μ3 71 2)) p2 → (∀ μ8, μ8 = ui μ6 71 2 ((gi μ6 71 2) + 1) → R μ8)))))
set_option maxRecDepth 20000 in
set_option maxHeartbeats 4000000 in
theorem wk_X4_add_0 {X : XT} {P : Post} (hO : OkM X cX4_add RX4 0 none P) (hn : xn X = 3) (p1 : Int32) (p2 : Int32)   (μ : Mem) {R : Mem → Prop} (hR : ∀ m, R m → P none m)    (h : vc_X4_add_0 p1 p2  μ R ) : V X 0 [some (.ref 71), some (.int p1), some (.int p2)] [] μ := by
  have hX := hO.1
  unfold vc_X4_add_0 at h
  refine v_aload_n hX dX4_add_0 rfl (?_ : V X 1 [some (.ref 71), some (.int p1), some (.int p2)] [.ref 71] μ)
  refine v_geti hX fk_X4_18 sh_71 rfl dX4_add_1 (?_ : V X 4 [some (.ref 71), some (.int p1), some (.int p2)] [.int (gi μ 71 2)] μ)
  refine v_iconst hX 5 dX4_add_4 rfl (?_ : V X 5 [some (.ref 71), some (.int p1), some (.int p2)] [.int 5, .int (gi μ 71 2)] μ)
  refine v_icmp_ge hX 38 dX4_add_5 rfl (fun c1 => ?_) (fun c1 => ?_)
  · replace h := h.1 c1
    exact v_vret hO dX4_add_38 (hR _ h)
  · replace h := h.2 c1
    refine v_aload_n hX dX4_add_8 rfl (?_ : V X 9 [some (.ref 71), some (.int p1), some (.int p2)] [.ref 71] μ)
    refine v_getr hX (72) fk_X4_9 sh_71 rfl rfl dX4_add_9 (?_ : V X 12 [some (.ref 71), some (.int p1), some (.int p2)] [.ref 72] μ)
    refine v_aload_n hX dX4_add_12 rfl (?_ : V X 13 [some (.ref 71), some (.int p1), some (.int p2)] [.ref 71, .ref 72] μ)
    refine v_geti hX fk_X4_18 sh_71 rfl dX4_add_13 (?_ : V X 16 [some (.ref 71), some (.int p1), some (.int p2)] [.int (gi μ 71 2), .ref 72] μ)
    refine v_iload_n hX dX4_add_16 rfl (?_ : V X 17 [some (.ref 71), some (.int p1), some (.int p2)] [.int p1, .int (gi μ 71 2), .ref 72] μ)
    have hb2 := h.1
    replace h := h.2
    refine w_iast hX (Int32.toNatClampNeg (gi μ 71 2)) sh_72 hb2 rfl dX4_add_17 (fun μ3 e4 => (?_ : V X 18 [some (.ref 71), some (.int p1), some (.int p2)] [] μ3))
    replace h := h μ3 e4
    refine v_aload_n hX dX4_add_18 rfl (?_ : V X 19 [some (.ref 71), some (.int p1), some (.int p2)] [.ref 71] μ3)
    refine v_getr hX (73) fk_X4_15 sh_71 rfl rfl dX4_add_19 (?_ : V X 22 [some (.ref 71), some (.int p1), some (.int p2)] [.ref 73] μ3)
    refine v_aload_n hX dX4_add_22 rfl (?_ : V X 23 [some (.ref 71), some (.int p1), some (.int p2)] [.ref 71, .ref 73] μ3)
    refine v_geti hX fk_X4_18 sh_71 rfl dX4_add_23 (?_ : V X 26 [some (.ref 71), some (.int p1), some (.int p2)] [.int (gi μ3 71 2), .ref 73] μ3)
    refine v_iload_n hX dX4_add_26 rfl (?_ : V X 27 [some (.ref 71), some (.int p1), some (.int p2)] [.int p2, .int (gi μ3 71 2), .ref 73] μ3)
    have hb5 := h.1
    replace h := h.2
    refine w_iast hX (Int32.toNatClampNeg (gi μ3 71 2)) sh_73 hb5 rfl dX4_add_27 (fun μ6 e7 => (?_ : V X 28 [some (.ref 71), some (.int p1), some (.int p2)] [] μ6))
    replace h := h μ6 e7
    refine v_aload_n hX dX4_add_28 rfl (?_ : V X 29 [some (.ref 71), some (.int p1), some (.int p2)] [.ref 71] μ6)
    refine v_dup hX dX4_add_29 rfl (?_ : V X 30 [some (.ref 71), some (.int p1), some (.int p2)] [.ref 71, .ref 71] μ6)
    refine v_geti hX fk_X4_18 sh_71 rfl dX4_add_30 (?_ : V X 33 [some (.ref 71), some (.int p1), some (.int p2)] [.int (gi μ6 71 2), .ref 71] μ6)
    refine v_iconst hX 1 dX4_add_33 rfl (?_ : V X 34 [some (.ref 71), some (.int p1), some (.int p2)] [.int 1, .int (gi μ6 71 2), .ref 71] μ6)
    refine v_iadd hX dX4_add_34 (?_ : V X 35 [some (.ref 71), some (.int p1), some (.int p2)] [.int ((gi μ6 71 2) + 1), .ref 71] μ6)
    refine w_puti hX fk_X4_18 fw_4_2 sh_71 rfl dX4_add_35 (fun μ8 e9 => (?_ : V X 38 [some (.ref 71), some (.int p1), some (.int p2)] [] μ8))
    replace h := h μ8 e9
    exact v_vret hO dX4_add_38 (hR _ h)
set_option maxRecDepth 20000 in
set_option maxHeartbeats 4000000 in
theorem vp_X4_add_0 (p1 : Int32) (p2 : Int32)  (μ : Mem) (hpre : pre_X4_add p1 p2 μ) : vc_X4_add_0 p1 p2 μ (post_X4_add p1 p2 μ)  := by
  simp only [vc_X4_add_0, and_imp, call_eq, forall_eq, forall_const, true_and, and_true]
  obtain ⟨h1, h1b⟩ := hpre
  have hin : vp_in (gi μ 71 2) 5 := by rw [h1]; exact vp_in_nI (by omega) (by omega)
  refine ⟨fun c => ?_, fun c => ⟨hin, ?_, ?_⟩⟩
  · rw [h1] at c
    have := (nI_leI (a := 5) (by omega) (by omega)).mp c
    omega
  · simp [gi_ui]; exact hin
  · simp [post_X4_add, gi_ui, gn]
theorem sp_X4_add : Sp yX4_add cX4_add 3 none 0 S_X4_add := by
  refine sp_of (by decide) (fun av μ P h => ?_) ?_
  · obtain ⟨p1, p2, rfl, -⟩ := h
    refine ⟨Nat.le_of_ble_eq_true rfl, fun v hv => ?_⟩
    simp only [List.mem_cons, List.not_mem_nil, or_false] at hv
    rcases hv with rfl | rfl | rfl <;> rfl
  · rintro X P hO _ μ ⟨p1, p2, rfl, hpre, hpost⟩ hn
    exact wk_X4_add_0 hO hn p1 p2  μ hpost (vp_X4_add_0 p1 p2  μ hpre)
def S_X4_agreesWith : Tr := fun av μ P => ∃ (w : Nat) (p1 : Int32), av = [.ref 71, .ref w, .int p1] ∧ (w = 3 ∨ w = 10) ∧ pre_X4_agreesWith w p1 μ ∧ ∀ (x : Int32) (m : Mem), post_X4_agreesWith w p1 μ x m → P (some (.int x)) m
def vc_X4_agreesWith_0 (w : Nat) (p1 : Int32)  (μ : Mem) (R : Int32 → Mem → Prop) (J2 : Int32 → Mem → Prop) : Prop :=
  J2 0 μ
set_option maxRecDepth 20000 in
set_option maxHeartbeats 4000000 in
theorem wk_X4_agreesWith_0 {X : XT} {P : Post} (hO : OkM X cX4_agreesWith RX4 0 (some .boolean) P) (hn : xn X = 4) (w : Nat) (p1 : Int32) (hw : w = 3 ∨ w = 10)  (μ : Mem) {R : Int32 → Mem → Prop} (hR : ∀ x m, R x m → P (some (.int x)) m) {J2 : Int32 → Mem → Prop} (hJ2 : ∀ (l3 : Int32) (m : Mem), J2 l3 m → V X 2 [some (.ref 71), some (.ref w), some (.int p1), some (.int l3)] [] m)  (h : vc_X4_agreesWith_0 w p1  μ R J2) : V X 0 [some (.ref 71), some (.ref w), some (.int p1), none] [] μ := by
  have hX := hO.1
  unfold vc_X4_agreesWith_0 at h
  refine v_iconst hX 0 dX4_agreesWith_0 rfl (?_ : V X 1 [some (.ref 71), some (.ref w), some (.int p1), none] [.int 0] μ)
  refine v_istore_n hX dX4_agreesWith_1 (by rw [hn]; decide) (?_ : V X 2 [some (.ref 71), some (.ref w), some (.int p1), some (.int 0)] [] μ)
  exact v_mask [true, true, true, true] (hJ2 _ _ h)
def vc_X4_agreesWith_2 (w : Nat) (p1 : Int32) (l3 : Int32) (μ : Mem) (R : Int32 → Mem → Prop) (J2 : Int32 → Mem → Prop) : Prop :=
  (((gi μ 71 2) ≤ l3 → R 1 μ) ∧ (¬ (gi μ 71 2) ≤ l3 → vp_in l3 5 ∧ vp_in (gi μ 72 (Int32.toNatClampNeg l3)) 5 ∧ vp_in l3 5 ∧ ((((gi μ (w + 4) (Int32.toNatClampNeg (gi μ 72 (Int32.toNatClampNeg l3)))) * p1) = (gi μ 73 (Int32.toNatClampNeg l3)) → J2 (l3 + 1) μ) ∧ (¬ ((gi μ (w + 4) (Int32.toNatClampNeg (gi μ 72 (Int32.toNatClampNeg l3)))) * p1) = (gi μ 73 (Int32.toNatClampNeg l3)) → R 0 μ))))
set_option maxRecDepth 20000 in
set_option maxHeartbeats 4000000 in
theorem wk_X4_agreesWith_2 {X : XT} {P : Post} (hO : OkM X cX4_agreesWith RX4 0 (some .boolean) P) (hn : xn X = 4) (w : Nat) (p1 : Int32) (hw : w = 3 ∨ w = 10) (l3 : Int32) (μ : Mem) {R : Int32 → Mem → Prop} (hR : ∀ x m, R x m → P (some (.int x)) m) {J2 : Int32 → Mem → Prop} (hJ2 : ∀ (l3 : Int32) (m : Mem), J2 l3 m → V X 2 [some (.ref 71), some (.ref w), some (.int p1), some (.int l3)] [] m)  (h : vc_X4_agreesWith_2 w p1 l3 μ R J2) : V X 2 [some (.ref 71), some (.ref w), some (.int p1), some (.int l3)] [] μ := by
  have hX := hO.1
  unfold vc_X4_agreesWith_2 at h
  refine v_iload_n hX dX4_agreesWith_2 rfl (?_ : V X 3 [some (.ref 71), some (.ref w), some (.int p1), some (.int l3)] [.int l3] μ)
  refine v_aload_n hX dX4_agreesWith_3 rfl (?_ : V X 4 [some (.ref 71), some (.ref w), some (.int p1), some (.int l3)] [.ref 71, .int l3] μ)
  refine v_geti hX fk_X4_18 sh_71 rfl dX4_agreesWith_4 (?_ : V X 7 [some (.ref 71), some (.ref w), some (.int p1), some (.int l3)] [.int (gi μ 71 2), .int l3] μ)
  refine v_icmp_ge hX 40 dX4_agreesWith_7 rfl (fun c1 => ?_) (fun c1 => ?_)
  · replace h := h.1 c1
    refine v_iconst hX 1 dX4_agreesWith_40 rfl (?_ : V X 41 [some (.ref 71), some (.ref w), some (.int p1), some (.int l3)] [.int 1] μ)
    exact v_zret hO dX4_agreesWith_41 (by decide) (hR _ _ h)
  · replace h := h.2 c1
    refine v_aload_n hX dX4_agreesWith_10 rfl (?_ : V X 11 [some (.ref 71), some (.ref w), some (.int p1), some (.int l3)] [.ref w] μ)
    refine v_getr hX (w + 4) fk_X4_22 (sHo hw) rfl rfl dX4_agreesWith_11 (?_ : V X 14 [some (.ref 71), some (.ref w), some (.int p1), some (.int l3)] [.ref (w + 4)] μ)
    refine v_aload_n hX dX4_agreesWith_14 rfl (?_ : V X 15 [some (.ref 71), some (.ref w), some (.int p1), some (.int l3)] [.ref 71, .ref (w + 4)] μ)
    refine v_getr hX (72) fk_X4_9 sh_71 rfl rfl dX4_agreesWith_15 (?_ : V X 18 [some (.ref 71), some (.ref w), some (.int p1), some (.int l3)] [.ref 72, .ref (w + 4)] μ)
    refine v_iload_n hX dX4_agreesWith_18 rfl (?_ : V X 19 [some (.ref 71), some (.ref w), some (.int p1), some (.int l3)] [.int l3, .ref 72, .ref (w + 4)] μ)
    have hb2 := h.1
    replace h := h.2
    refine w_iald hX (Int32.toNatClampNeg l3) sh_72 hb2 rfl dX4_agreesWith_19 (?_ : V X 20 [some (.ref 71), some (.ref w), some (.int p1), some (.int l3)] [.int (gi μ 72 (Int32.toNatClampNeg l3)), .ref (w + 4)] μ)
    have hb3 := h.1
    replace h := h.2
    refine w_iald hX (Int32.toNatClampNeg (gi μ 72 (Int32.toNatClampNeg l3))) (sH4 hw) hb3 rfl dX4_agreesWith_20 (?_ : V X 21 [some (.ref 71), some (.ref w), some (.int p1), some (.int l3)] [.int (gi μ (w + 4) (Int32.toNatClampNeg (gi μ 72 (Int32.toNatClampNeg l3))))] μ)
    refine v_iload_n hX dX4_agreesWith_21 rfl (?_ : V X 22 [some (.ref 71), some (.ref w), some (.int p1), some (.int l3)] [.int p1, .int (gi μ (w + 4) (Int32.toNatClampNeg (gi μ 72 (Int32.toNatClampNeg l3))))] μ)
    refine v_imul hX dX4_agreesWith_22 (?_ : V X 23 [some (.ref 71), some (.ref w), some (.int p1), some (.int l3)] [.int ((gi μ (w + 4) (Int32.toNatClampNeg (gi μ 72 (Int32.toNatClampNeg l3)))) * p1)] μ)
    refine v_aload_n hX dX4_agreesWith_23 rfl (?_ : V X 24 [some (.ref 71), some (.ref w), some (.int p1), some (.int l3)] [.ref 71, .int ((gi μ (w + 4) (Int32.toNatClampNeg (gi μ 72 (Int32.toNatClampNeg l3)))) * p1)] μ)
    refine v_getr hX (73) fk_X4_15 sh_71 rfl rfl dX4_agreesWith_24 (?_ : V X 27 [some (.ref 71), some (.ref w), some (.int p1), some (.int l3)] [.ref 73, .int ((gi μ (w + 4) (Int32.toNatClampNeg (gi μ 72 (Int32.toNatClampNeg l3)))) * p1)] μ)
    refine v_iload_n hX dX4_agreesWith_27 rfl (?_ : V X 28 [some (.ref 71), some (.ref w), some (.int p1), some (.int l3)] [.int l3, .ref 73, .int ((gi μ (w + 4) (Int32.toNatClampNeg (gi μ 72 (Int32.toNatClampNeg l3)))) * p1)] μ)
    have hb4 := h.1
    replace h := h.2
    refine w_iald hX (Int32.toNatClampNeg l3) sh_73 hb4 rfl dX4_agreesWith_28 (?_ : V X 29 [some (.ref 71), some (.ref w), some (.int p1), some (.int l3)] [.int (gi μ 73 (Int32.toNatClampNeg l3)), .int ((gi μ (w + 4) (Int32.toNatClampNeg (gi μ 72 (Int32.toNatClampNeg l3)))) * p1)] μ)
    refine v_icmp_eq hX 34 dX4_agreesWith_29 rfl (fun c5 => ?_) (fun c5 => ?_)
    · replace h := h.1 c5
      refine v_iinc hX 1 dX4_agreesWith_34 (by rw [hn]; decide) rfl rfl (?_ : V X 37 [some (.ref 71), some (.ref w), some (.int p1), some (.int (l3 + 1))] [] μ)
      refine v_goto hX 2 dX4_agreesWith_37 rfl (?_ : V X 2 [some (.ref 71), some (.ref w), some (.int p1), some (.int (l3 + 1))] [] μ)
      exact v_mask [true, true, true, true] (hJ2 _ _ h)
    · replace h := h.2 c5
      refine v_iconst hX 0 dX4_agreesWith_32 rfl (?_ : V X 33 [some (.ref 71), some (.ref w), some (.int p1), some (.int l3)] [.int 0] μ)
      exact v_zret hO dX4_agreesWith_33 (by decide) (hR _ _ h)
set_option maxRecDepth 20000 in
set_option maxHeartbeats 4000000 in
theorem vp_X4_agreesWith_0 (w : Nat) (p1 : Int32) (hw : w = 3 ∨ w = 10) (μ : Mem) (hpre : pre_X4_agreesWith w p1 μ) : vc_X4_agreesWith_0 w p1 μ (post_X4_agreesWith w p1 μ) (fun l3 m => ∃ k : Nat, inv_X4_agreesWith_2 w p1 μ k l3 m) := by
  simp only [vc_X4_agreesWith_0, and_imp, call_eq, forall_eq, forall_const, true_and, and_true]
  exact ⟨gn μ 71 2, 0, Nat.zero_le _, rfl, rfl, rfl, fun j hj => absurd hj (Nat.not_lt_zero j)⟩
set_option maxRecDepth 20000 in
set_option maxHeartbeats 4000000 in
theorem vp_X4_agreesWith_2 (w : Nat) (p1 : Int32) (hw : w = 3 ∨ w = 10) (μ : Mem) (hpre : pre_X4_agreesWith w p1 μ) (n : Nat) (l3 : Int32) (μ0 : Mem) (hi : inv_X4_agreesWith_2 w p1 μ n l3 μ0) : vc_X4_agreesWith_2 w p1 l3 μ0 (post_X4_agreesWith w p1 μ) (fun l3 m => ∃ k : Nat, k < n ∧ inv_X4_agreesWith_2 w p1 μ k l3 m) := by
  simp only [vc_X4_agreesWith_2, and_imp, call_eq, forall_eq, forall_const, true_and, and_true]
  obtain ⟨i, hi1, rfl, rfl, rfl, hv⟩ := hi
  obtain ⟨hp1, hp2⟩ := hpre
  have hb := hp1.2
  rw [isN_le hp1 (by omega) (by omega), nI_clamp (by omega)]
  refine ⟨fun c => ⟨?_, rfl⟩, fun c => ⟨vp_in_nI (by omega) (by omega), hp2 i (by omega), vp_in_nI (by omega) (by omega), fun c2 => ⟨gn μ0 71 2 - (i + 1), by omega, i + 1, by omega, rfl, nI_1 i, rfl, fun j hj => ?_⟩, fun c2 => ⟨?_, rfl⟩⟩⟩
  · rw [if_pos (fun j hj => hv j (by omega))]
  · rcases Nat.lt_or_ge j i with h | h
    · exact hv j h
    · have : j = i := by omega
      subst this; exact c2
  · rw [if_neg (fun q => c2 (q i (by omega)))]
theorem sp_X4_agreesWith : Sp yX4_agreesWith cX4_agreesWith 4 (some .boolean) 0 S_X4_agreesWith := by
  refine sp_of (by decide) (fun av μ P h => ?_) ?_
  · obtain ⟨w, p1, rfl, -⟩ := h
    refine ⟨Nat.le_of_ble_eq_true rfl, fun v hv => ?_⟩
    simp only [List.mem_cons, List.not_mem_nil, or_false] at hv
    rcases hv with rfl | rfl | rfl <;> rfl
  · rintro X P hO _ μ ⟨w, p1, rfl, hw, hpre, hpost⟩ hn
    have hJ : ∀ n : Nat, (∀ (l3 : Int32) (m : Mem), inv_X4_agreesWith_2 w p1 μ n l3 m → V X 2 [some (.ref 71), some (.ref w), some (.int p1), some (.int l3)] [] m) := by
      intro n
      induction n using Nat.strongRecOn with
      | _ n ih =>
        exact fun l3 m hi => wk_X4_agreesWith_2 (J2 := (fun l3 m => ∃ k : Nat, k < n ∧ inv_X4_agreesWith_2 w p1 μ k l3 m)) hO hn w p1 hw l3 m hpost (fun l3 m hk => by obtain ⟨k, hk, hi⟩ := hk; exact (ih k hk) l3 m hi) (vp_X4_agreesWith_2 w p1 hw μ hpre n l3 m hi)
    exact wk_X4_agreesWith_0 (J2 := (fun l3 m => ∃ k : Nat, inv_X4_agreesWith_2 w p1 μ k l3 m)) hO hn w p1 hw μ hpost (fun l3 m hk => by obtain ⟨k, hi⟩ := hk; exact (hJ k) l3 m hi) (vp_X4_agreesWith_0 w p1 hw μ hpre)
def S_X3_leftOf : Tr := fun av μ P => ∃ (w : Nat) (p1 : Int32), av = [.ref w, .int p1] ∧ (w = 3 ∨ w = 10) ∧ pre_X3_leftOf w p1 μ ∧ ∀ (x : Int32) (m : Mem), post_X3_leftOf w p1 μ x m → P (some (.int x)) m
def vc_X3_leftOf_0 (w : Nat) (p1 : Int32)  (μ : Mem) (R : Int32 → Mem → Prop) (J4 : Int32 → Int32 → Mem → Prop) : Prop :=
  J4 0 0 μ
set_option maxRecDepth 20000 in
set_option maxHeartbeats 4000000 in
theorem wk_X3_leftOf_0 {X : XT} {P : Post} (hO : OkM X cX3_leftOf RX3 0 (some .int) P) (hn : xn X = 5) (w : Nat) (p1 : Int32) (hw : w = 3 ∨ w = 10)  (μ : Mem) {R : Int32 → Mem → Prop} (hR : ∀ x m, R x m → P (some (.int x)) m) {J4 : Int32 → Int32 → Mem → Prop} (hJ4 : ∀ (l2 : Int32) (l3 : Int32) (m : Mem), J4 l2 l3 m → V X 4 [some (.ref w), some (.int p1), some (.int l2), some (.int l3), none] [] m)  (h : vc_X3_leftOf_0 w p1  μ R J4) : V X 0 [some (.ref w), some (.int p1), none, none, none] [] μ := by
  have hX := hO.1
  unfold vc_X3_leftOf_0 at h
  refine v_iconst hX 0 dX3_leftOf_0 rfl (?_ : V X 1 [some (.ref w), some (.int p1), none, none, none] [.int 0] μ)
  refine v_istore_n hX dX3_leftOf_1 (by rw [hn]; decide) (?_ : V X 2 [some (.ref w), some (.int p1), some (.int 0), none, none] [] μ)
  refine v_iconst hX 0 dX3_leftOf_2 rfl (?_ : V X 3 [some (.ref w), some (.int p1), some (.int 0), none, none] [.int 0] μ)
  refine v_istore_n hX dX3_leftOf_3 (by rw [hn]; decide) (?_ : V X 4 [some (.ref w), some (.int p1), some (.int 0), some (.int 0), none] [] μ)
  exact v_mask [true, true, true, true, false] (hJ4 _ _ _ h)
def vc_X3_leftOf_4 (w : Nat) (p1 : Int32) (l2 : Int32) (l3 : Int32) (μ : Mem) (R : Int32 → Mem → Prop) (J4 : Int32 → Int32 → Mem → Prop) : Prop :=
  (((gi μ w 7) ≤ l3 → R l2 μ) ∧ (¬ (gi μ w 7) ≤ l3 → vp_in l3 6 ∧ vp_in (gi μ w 9) 6 ∧ (∀ y4 : Int32, y4 = (gi μ (w + 6) (Int32.toNatClampNeg l3)) ^^^ (gi μ (w + 6) (Int32.toNatClampNeg (gi μ w 9))) → ((¬ (y4 &&& p1) = 0 → J4 l2 (l3 + 1) μ) ∧ ((y4 &&& p1) = 0 → J4 (l2 ||| (1 <<< (l3 &&& 31))) (l3 + 1) μ)))))
set_option maxRecDepth 20000 in
set_option maxHeartbeats 4000000 in
theorem wk_X3_leftOf_4 {X : XT} {P : Post} (hO : OkM X cX3_leftOf RX3 0 (some .int) P) (hn : xn X = 5) (w : Nat) (p1 : Int32) (hw : w = 3 ∨ w = 10) (l2 : Int32) (l3 : Int32) (μ : Mem) {R : Int32 → Mem → Prop} (hR : ∀ x m, R x m → P (some (.int x)) m) {J4 : Int32 → Int32 → Mem → Prop} (hJ4 : ∀ (l2 : Int32) (l3 : Int32) (m : Mem), J4 l2 l3 m → V X 4 [some (.ref w), some (.int p1), some (.int l2), some (.int l3), none] [] m)  (h : vc_X3_leftOf_4 w p1 l2 l3 μ R J4) : V X 4 [some (.ref w), some (.int p1), some (.int l2), some (.int l3), none] [] μ := by
  have hX := hO.1
  unfold vc_X3_leftOf_4 at h
  refine v_iload_n hX dX3_leftOf_4 rfl (?_ : V X 5 [some (.ref w), some (.int p1), some (.int l2), some (.int l3), none] [.int l3] μ)
  refine v_aload_n hX dX3_leftOf_5 rfl (?_ : V X 6 [some (.ref w), some (.int p1), some (.int l2), some (.int l3), none] [.ref w, .int l3] μ)
  refine v_geti hX fk_X3_18 (sHo hw) rfl dX3_leftOf_6 (?_ : V X 9 [some (.ref w), some (.int p1), some (.int l2), some (.int l3), none] [.int (gi μ w 7), .int l3] μ)
  refine v_icmp_ge hX 49 dX3_leftOf_9 rfl (fun c1 => ?_) (fun c1 => ?_)
  · replace h := h.1 c1
    refine v_iload_n hX dX3_leftOf_49 rfl (?_ : V X 50 [some (.ref w), some (.int p1), some (.int l2), some (.int l3), none] [.int l2] μ)
    exact v_iret hO dX3_leftOf_50 (hR _ _ h)
  · replace h := h.2 c1
    refine v_aload_n hX dX3_leftOf_12 rfl (?_ : V X 13 [some (.ref w), some (.int p1), some (.int l2), some (.int l3), none] [.ref w] μ)
    refine v_getr hX (w + 6) fk_X3_24 (sHo hw) rfl rfl dX3_leftOf_13 (?_ : V X 16 [some (.ref w), some (.int p1), some (.int l2), some (.int l3), none] [.ref (w + 6)] μ)
    refine v_iload_n hX dX3_leftOf_16 rfl (?_ : V X 17 [some (.ref w), some (.int p1), some (.int l2), some (.int l3), none] [.int l3, .ref (w + 6)] μ)
    have hb2 := h.1
    replace h := h.2
    refine w_iald hX (Int32.toNatClampNeg l3) (sH6 hw) hb2 rfl dX3_leftOf_17 (?_ : V X 18 [some (.ref w), some (.int p1), some (.int l2), some (.int l3), none] [.int (gi μ (w + 6) (Int32.toNatClampNeg l3))] μ)
    refine v_aload_n hX dX3_leftOf_18 rfl (?_ : V X 19 [some (.ref w), some (.int p1), some (.int l2), some (.int l3), none] [.ref w, .int (gi μ (w + 6) (Int32.toNatClampNeg l3))] μ)
    refine v_getr hX (w + 6) fk_X3_24 (sHo hw) rfl rfl dX3_leftOf_19 (?_ : V X 22 [some (.ref w), some (.int p1), some (.int l2), some (.int l3), none] [.ref (w + 6), .int (gi μ (w + 6) (Int32.toNatClampNeg l3))] μ)
    refine v_aload_n hX dX3_leftOf_22 rfl (?_ : V X 23 [some (.ref w), some (.int p1), some (.int l2), some (.int l3), none] [.ref w, .ref (w + 6), .int (gi μ (w + 6) (Int32.toNatClampNeg l3))] μ)
    refine v_geti hX fk_X3_27 (sHo hw) rfl dX3_leftOf_23 (?_ : V X 26 [some (.ref w), some (.int p1), some (.int l2), some (.int l3), none] [.int (gi μ w 9), .ref (w + 6), .int (gi μ (w + 6) (Int32.toNatClampNeg l3))] μ)
    have hb3 := h.1
    replace h := h.2
    refine w_iald hX (Int32.toNatClampNeg (gi μ w 9)) (sH6 hw) hb3 rfl dX3_leftOf_26 (?_ : V X 27 [some (.ref w), some (.int p1), some (.int l2), some (.int l3), none] [.int (gi μ (w + 6) (Int32.toNatClampNeg (gi μ w 9))), .int (gi μ (w + 6) (Int32.toNatClampNeg l3))] μ)
    refine v_ixor hX dX3_leftOf_27 (?_ : V X 28 [some (.ref w), some (.int p1), some (.int l2), some (.int l3), none] [.int ((gi μ (w + 6) (Int32.toNatClampNeg l3)) ^^^ (gi μ (w + 6) (Int32.toNatClampNeg (gi μ w 9))))] μ)
    refine w_istore hX dX3_leftOf_28 (by rw [hn]; decide) (fun y4 e5 => (?_ : V X 30 [some (.ref w), some (.int p1), some (.int l2), some (.int l3), some (.int y4)] [] μ))
    replace h := h y4 e5
    refine v_iload hX dX3_leftOf_30 rfl (?_ : V X 32 [some (.ref w), some (.int p1), some (.int l2), some (.int l3), some (.int y4)] [.int y4] μ)
    refine v_iload_n hX dX3_leftOf_32 rfl (?_ : V X 33 [some (.ref w), some (.int p1), some (.int l2), some (.int l3), some (.int y4)] [.int p1, .int y4] μ)
    refine v_iand hX dX3_leftOf_33 (?_ : V X 34 [some (.ref w), some (.int p1), some (.int l2), some (.int l3), some (.int y4)] [.int (y4 &&& p1)] μ)
    refine v_if_ne hX 43 dX3_leftOf_34 rfl (fun c6 => ?_) (fun c6 => ?_)
    · replace h := h.1 c6
      refine v_iinc hX 1 dX3_leftOf_43 (by rw [hn]; decide) rfl rfl (?_ : V X 46 [some (.ref w), some (.int p1), some (.int l2), some (.int (l3 + 1)), some (.int y4)] [] μ)
      refine v_goto hX 4 dX3_leftOf_46 rfl (?_ : V X 4 [some (.ref w), some (.int p1), some (.int l2), some (.int (l3 + 1)), some (.int y4)] [] μ)
      exact v_mask [true, true, true, true, false] (hJ4 _ _ _ h)
    · replace h := h.2 c6
      refine v_iload_n hX dX3_leftOf_37 rfl (?_ : V X 38 [some (.ref w), some (.int p1), some (.int l2), some (.int l3), some (.int y4)] [.int l2] μ)
      refine v_iconst hX 1 dX3_leftOf_38 rfl (?_ : V X 39 [some (.ref w), some (.int p1), some (.int l2), some (.int l3), some (.int y4)] [.int 1, .int l2] μ)
      refine v_iload_n hX dX3_leftOf_39 rfl (?_ : V X 40 [some (.ref w), some (.int p1), some (.int l2), some (.int l3), some (.int y4)] [.int l3, .int 1, .int l2] μ)
      refine v_ishl hX dX3_leftOf_40 (?_ : V X 41 [some (.ref w), some (.int p1), some (.int l2), some (.int l3), some (.int y4)] [.int (1 <<< (l3 &&& 31)), .int l2] μ)
      refine v_ior hX dX3_leftOf_41 (?_ : V X 42 [some (.ref w), some (.int p1), some (.int l2), some (.int l3), some (.int y4)] [.int (l2 ||| (1 <<< (l3 &&& 31)))] μ)
      refine v_istore_n hX dX3_leftOf_42 (by rw [hn]; decide) (?_ : V X 43 [some (.ref w), some (.int p1), some (.int (l2 ||| (1 <<< (l3 &&& 31)))), some (.int l3), some (.int y4)] [] μ)
      refine v_iinc hX 1 dX3_leftOf_43 (by rw [hn]; decide) rfl rfl (?_ : V X 46 [some (.ref w), some (.int p1), some (.int (l2 ||| (1 <<< (l3 &&& 31)))), some (.int (l3 + 1)), some (.int y4)] [] μ)
      refine v_goto hX 4 dX3_leftOf_46 rfl (?_ : V X 4 [some (.ref w), some (.int p1), some (.int (l2 ||| (1 <<< (l3 &&& 31)))), some (.int (l3 + 1)), some (.int y4)] [] μ)
      exact v_mask [true, true, true, true, false] (hJ4 _ _ _ h)
set_option maxRecDepth 20000 in
set_option maxHeartbeats 4000000 in
theorem vp_X3_leftOf_0 (w : Nat) (p1 : Int32) (hw : w = 3 ∨ w = 10) (μ : Mem) (hpre : pre_X3_leftOf w p1 μ) : vc_X3_leftOf_0 w p1 μ (post_X3_leftOf w p1 μ) (fun l2 l3 m => ∃ k : Nat, inv_X3_leftOf_4 w p1 μ k l2 l3 m) := by
  simp only [vc_X3_leftOf_0, and_imp, call_eq, forall_eq, forall_const, true_and, and_true]
  exact ⟨gn μ w 7, 0, Nat.zero_le _, rfl, rfl, rfl, rfl⟩
set_option maxRecDepth 20000 in
set_option maxHeartbeats 4000000 in
theorem vp_X3_leftOf_4 (w : Nat) (p1 : Int32) (hw : w = 3 ∨ w = 10) (μ : Mem) (hpre : pre_X3_leftOf w p1 μ) (n : Nat) (l2 : Int32) (l3 : Int32) (μ0 : Mem) (hi : inv_X3_leftOf_4 w p1 μ n l2 l3 μ0) : vc_X3_leftOf_4 w p1 l2 l3 μ0 (post_X3_leftOf w p1 μ) (fun l2 l3 m => ∃ k : Nat, k < n ∧ inv_X3_leftOf_4 w p1 μ k l2 l3 m) := by
  simp only [vc_X3_leftOf_4, and_imp, call_eq, forall_eq, forall_const, true_and, and_true]
  obtain ⟨i, hi1, rfl, rfl, rfl, rfl⟩ := hi
  obtain ⟨hp1, hp2⟩ := hpre
  have hb := hp1.2
  have hb2 := hp2.2
  rw [isN_le hp1 (by omega) (by omega), nI_clamp (by omega)]
  refine ⟨fun c => ?_, fun c => ⟨vp_in_nI (by omega) (by omega), isN_in hp2 (by omega) (by omega), fun c2 => ⟨gn μ0 w 7 - (i + 1), by omega, i + 1, by omega, rfl, nI_1 i, ?_, rfl⟩, fun c2 => ⟨gn μ0 w 7 - (i + 1), by omega, i + 1, by omega, rfl, nI_1 i, ?_, rfl⟩⟩⟩
  · have : i = gn μ0 w 7 := by omega
    subst this
    exact ⟨rfl, rfl⟩
  · have c3 : ¬ (gi μ0 (w + 6) i ^^^ gi μ0 (w + 6) (gn μ0 w 9)) &&& p1 = 0 := c2
    simp only [orI]
    rw [if_neg c3, orI_0]
  · have c3 : (gi μ0 (w + 6) i ^^^ gi μ0 (w + 6) (gn μ0 w 9)) &&& p1 = 0 := c2
    simp only [orI]
    rw [if_pos c3]
theorem sp_X3_leftOf : Sp yX3_leftOf cX3_leftOf 5 (some .int) 0 S_X3_leftOf := by
  refine sp_of (by decide) (fun av μ P h => ?_) ?_
  · obtain ⟨w, p1, rfl, -⟩ := h
    refine ⟨Nat.le_of_ble_eq_true rfl, fun v hv => ?_⟩
    simp only [List.mem_cons, List.not_mem_nil, or_false] at hv
    rcases hv with rfl | rfl <;> rfl
  · rintro X P hO _ μ ⟨w, p1, rfl, hw, hpre, hpost⟩ hn
    have hJ : ∀ n : Nat, (∀ (l2 : Int32) (l3 : Int32) (m : Mem), inv_X3_leftOf_4 w p1 μ n l2 l3 m → V X 4 [some (.ref w), some (.int p1), some (.int l2), some (.int l3), none] [] m) := by
      intro n
      induction n using Nat.strongRecOn with
      | _ n ih =>
        exact fun l2 l3 m hi => wk_X3_leftOf_4 (J4 := (fun l2 l3 m => ∃ k : Nat, k < n ∧ inv_X3_leftOf_4 w p1 μ k l2 l3 m)) hO hn w p1 hw l2 l3 m hpost (fun l2 l3 m hk => by obtain ⟨k, hk, hi⟩ := hk; exact (ih k hk) l2 l3 m hi) (vp_X3_leftOf_4 w p1 hw μ hpre n l2 l3 m hi)
    exact wk_X3_leftOf_0 (J4 := (fun l2 l3 m => ∃ k : Nat, inv_X3_leftOf_4 w p1 μ k l2 l3 m)) hO hn w p1 hw μ hpost (fun l2 l3 m hk => by obtain ⟨k, hi⟩ := hk; exact (hJ k) l2 l3 m hi) (vp_X3_leftOf_0 w p1 hw μ hpre)
def S_X3_withTrait : Tr := fun av μ P => ∃ (w : Nat) (p1 : Int32), av = [.ref w, .int p1] ∧ (w = 3 ∨ w = 10) ∧ pre_X3_withTrait w p1 μ ∧ ∀ (x : Int32) (m : Mem), post_X3_withTrait w p1 μ x m → P (some (.int x)) m
def vc_X3_withTrait_0 (w : Nat) (p1 : Int32)  (μ : Mem) (R : Int32 → Mem → Prop) (J4 : Int32 → Int32 → Mem → Prop) : Prop :=
  J4 0 0 μ
set_option maxRecDepth 20000 in
set_option maxHeartbeats 4000000 in
theorem wk_X3_withTrait_0 {X : XT} {P : Post} (hO : OkM X cX3_withTrait RX3 0 (some .int) P) (hn : xn X = 4) (w : Nat) (p1 : Int32) (hw : w = 3 ∨ w = 10)  (μ : Mem) {R : Int32 → Mem → Prop} (hR : ∀ x m, R x m → P (some (.int x)) m) {J4 : Int32 → Int32 → Mem → Prop} (hJ4 : ∀ (l2 : Int32) (l3 : Int32) (m : Mem), J4 l2 l3 m → V X 4 [some (.ref w), some (.int p1), some (.int l2), some (.int l3)] [] m)  (h : vc_X3_withTrait_0 w p1  μ R J4) : V X 0 [some (.ref w), some (.int p1), none, none] [] μ := by
  have hX := hO.1
  unfold vc_X3_withTrait_0 at h
  refine v_iconst hX 0 dX3_withTrait_0 rfl (?_ : V X 1 [some (.ref w), some (.int p1), none, none] [.int 0] μ)
  refine v_istore_n hX dX3_withTrait_1 (by rw [hn]; decide) (?_ : V X 2 [some (.ref w), some (.int p1), some (.int 0), none] [] μ)
  refine v_iconst hX 0 dX3_withTrait_2 rfl (?_ : V X 3 [some (.ref w), some (.int p1), some (.int 0), none] [.int 0] μ)
  refine v_istore_n hX dX3_withTrait_3 (by rw [hn]; decide) (?_ : V X 4 [some (.ref w), some (.int p1), some (.int 0), some (.int 0)] [] μ)
  exact v_mask [true, true, true, true] (hJ4 _ _ _ h)
def vc_X3_withTrait_4 (w : Nat) (p1 : Int32) (l2 : Int32) (l3 : Int32) (μ : Mem) (R : Int32 → Mem → Prop) (J4 : Int32 → Int32 → Mem → Prop) : Prop :=
  (((gi μ w 7) ≤ l3 → R l2 μ) ∧ (¬ (gi μ w 7) ≤ l3 → vp_in l3 6 ∧ (∀ y3 : Int32, y3 = l2 ||| ((((gi μ (w + 6) (Int32.toNatClampNeg l3)) >>> (p1 &&& 31)) &&& 1) <<< (l3 &&& 31)) → J4 y3 (l3 + 1) μ)))
set_option maxRecDepth 20000 in
set_option maxHeartbeats 4000000 in
theorem wk_X3_withTrait_4 {X : XT} {P : Post} (hO : OkM X cX3_withTrait RX3 0 (some .int) P) (hn : xn X = 4) (w : Nat) (p1 : Int32) (hw : w = 3 ∨ w = 10) (l2 : Int32) (l3 : Int32) (μ : Mem) {R : Int32 → Mem → Prop} (hR : ∀ x m, R x m → P (some (.int x)) m) {J4 : Int32 → Int32 → Mem → Prop} (hJ4 : ∀ (l2 : Int32) (l3 : Int32) (m : Mem), J4 l2 l3 m → V X 4 [some (.ref w), some (.int p1), some (.int l2), some (.int l3)] [] m)  (h : vc_X3_withTrait_4 w p1 l2 l3 μ R J4) : V X 4 [some (.ref w), some (.int p1), some (.int l2), some (.int l3)] [] μ := by
  have hX := hO.1
  unfold vc_X3_withTrait_4 at h
  refine v_iload_n hX dX3_withTrait_4 rfl (?_ : V X 5 [some (.ref w), some (.int p1), some (.int l2), some (.int l3)] [.int l3] μ)
  refine v_aload_n hX dX3_withTrait_5 rfl (?_ : V X 6 [some (.ref w), some (.int p1), some (.int l2), some (.int l3)] [.ref w, .int l3] μ)
  refine v_geti hX fk_X3_18 (sHo hw) rfl dX3_withTrait_6 (?_ : V X 9 [some (.ref w), some (.int p1), some (.int l2), some (.int l3)] [.int (gi μ w 7), .int l3] μ)
  refine v_icmp_ge hX 33 dX3_withTrait_9 rfl (fun c1 => ?_) (fun c1 => ?_)
  · replace h := h.1 c1
    refine v_iload_n hX dX3_withTrait_33 rfl (?_ : V X 34 [some (.ref w), some (.int p1), some (.int l2), some (.int l3)] [.int l2] μ)
    exact v_iret hO dX3_withTrait_34 (hR _ _ h)
  · replace h := h.2 c1
    refine v_iload_n hX dX3_withTrait_12 rfl (?_ : V X 13 [some (.ref w), some (.int p1), some (.int l2), some (.int l3)] [.int l2] μ)
    refine v_aload_n hX dX3_withTrait_13 rfl (?_ : V X 14 [some (.ref w), some (.int p1), some (.int l2), some (.int l3)] [.ref w, .int l2] μ)
    refine v_getr hX (w + 6) fk_X3_24 (sHo hw) rfl rfl dX3_withTrait_14 (?_ : V X 17 [some (.ref w), some (.int p1), some (.int l2), some (.int l3)] [.ref (w + 6), .int l2] μ)
    refine v_iload_n hX dX3_withTrait_17 rfl (?_ : V X 18 [some (.ref w), some (.int p1), some (.int l2), some (.int l3)] [.int l3, .ref (w + 6), .int l2] μ)
    have hb2 := h.1
    replace h := h.2
    refine w_iald hX (Int32.toNatClampNeg l3) (sH6 hw) hb2 rfl dX3_withTrait_18 (?_ : V X 19 [some (.ref w), some (.int p1), some (.int l2), some (.int l3)] [.int (gi μ (w + 6) (Int32.toNatClampNeg l3)), .int l2] μ)
    refine v_iload_n hX dX3_withTrait_19 rfl (?_ : V X 20 [some (.ref w), some (.int p1), some (.int l2), some (.int l3)] [.int p1, .int (gi μ (w + 6) (Int32.toNatClampNeg l3)), .int l2] μ)
    refine v_ishr hX dX3_withTrait_20 (?_ : V X 21 [some (.ref w), some (.int p1), some (.int l2), some (.int l3)] [.int ((gi μ (w + 6) (Int32.toNatClampNeg l3)) >>> (p1 &&& 31)), .int l2] μ)
    refine v_iconst hX 1 dX3_withTrait_21 rfl (?_ : V X 22 [some (.ref w), some (.int p1), some (.int l2), some (.int l3)] [.int 1, .int ((gi μ (w + 6) (Int32.toNatClampNeg l3)) >>> (p1 &&& 31)), .int l2] μ)
    refine v_iand hX dX3_withTrait_22 (?_ : V X 23 [some (.ref w), some (.int p1), some (.int l2), some (.int l3)] [.int (((gi μ (w + 6) (Int32.toNatClampNeg l3)) >>> (p1 &&& 31)) &&& 1), .int l2] μ)
    refine v_iload_n hX dX3_withTrait_23 rfl (?_ : V X 24 [some (.ref w), some (.int p1), some (.int l2), some (.int l3)] [.int l3, .int (((gi μ (w + 6) (Int32.toNatClampNeg l3)) >>> (p1 &&& 31)) &&& 1), .int l2] μ)
    refine v_ishl hX dX3_withTrait_24 (?_ : V X 25 [some (.ref w), some (.int p1), some (.int l2), some (.int l3)] [.int ((((gi μ (w + 6) (Int32.toNatClampNeg l3)) >>> (p1 &&& 31)) &&& 1) <<< (l3 &&& 31)), .int l2] μ)
    refine v_ior hX dX3_withTrait_25 (?_ : V X 26 [some (.ref w), some (.int p1), some (.int l2), some (.int l3)] [.int (l2 ||| ((((gi μ (w + 6) (Int32.toNatClampNeg l3)) >>> (p1 &&& 31)) &&& 1) <<< (l3 &&& 31)))] μ)
    refine w_istore_n hX dX3_withTrait_26 (by rw [hn]; decide) (fun y3 e4 => (?_ : V X 27 [some (.ref w), some (.int p1), some (.int y3), some (.int l3)] [] μ))
    replace h := h y3 e4
    refine v_iinc hX 1 dX3_withTrait_27 (by rw [hn]; decide) rfl rfl (?_ : V X 30 [some (.ref w), some (.int p1), some (.int y3), some (.int (l3 + 1))] [] μ)
    refine v_goto hX 4 dX3_withTrait_30 rfl (?_ : V X 4 [some (.ref w), some (.int p1), some (.int y3), some (.int (l3 + 1))] [] μ)
    exact v_mask [true, true, true, true] (hJ4 _ _ _ h)
set_option maxRecDepth 20000 in
set_option maxHeartbeats 4000000 in
theorem vp_X3_withTrait_0 (w : Nat) (p1 : Int32) (hw : w = 3 ∨ w = 10) (μ : Mem) (hpre : pre_X3_withTrait w p1 μ) : vc_X3_withTrait_0 w p1 μ (post_X3_withTrait w p1 μ) (fun l2 l3 m => ∃ k : Nat, inv_X3_withTrait_4 w p1 μ k l2 l3 m) := by
  simp only [vc_X3_withTrait_0, and_imp, call_eq, forall_eq, forall_const, true_and, and_true]
  exact ⟨gn μ w 7, 0, Nat.zero_le _, rfl, rfl, rfl, rfl⟩
set_option maxRecDepth 20000 in
set_option maxHeartbeats 4000000 in
theorem vp_X3_withTrait_4 (w : Nat) (p1 : Int32) (hw : w = 3 ∨ w = 10) (μ : Mem) (hpre : pre_X3_withTrait w p1 μ) (n : Nat) (l2 : Int32) (l3 : Int32) (μ0 : Mem) (hi : inv_X3_withTrait_4 w p1 μ n l2 l3 μ0) : vc_X3_withTrait_4 w p1 l2 l3 μ0 (post_X3_withTrait w p1 μ) (fun l2 l3 m => ∃ k : Nat, k < n ∧ inv_X3_withTrait_4 w p1 μ k l2 l3 m) := by
  simp only [vc_X3_withTrait_4, and_imp, call_eq, forall_eq, forall_const, true_and, and_true]
  obtain ⟨i, hi1, rfl, rfl, rfl, rfl⟩ := hi
  have hb := hpre.2
  unfold pre_X3_withTrait at hpre
  rw [isN_le hpre (by omega) (by omega), nI_clamp (by omega)]
  refine ⟨fun c => ?_, fun c => ⟨vp_in_nI (by omega) (by omega), gn μ0 w 7 - (i + 1), by omega, i + 1, by omega, rfl, nI_1 i, rfl, rfl⟩⟩
  have : i = gn μ0 w 7 := by omega
  subst this
  exact ⟨rfl, rfl⟩
theorem sp_X3_withTrait : Sp yX3_withTrait cX3_withTrait 4 (some .int) 0 S_X3_withTrait := by
  refine sp_of (by decide) (fun av μ P h => ?_) ?_
  · obtain ⟨w, p1, rfl, -⟩ := h
    refine ⟨Nat.le_of_ble_eq_true rfl, fun v hv => ?_⟩
    simp only [List.mem_cons, List.not_mem_nil, or_false] at hv
    rcases hv with rfl | rfl <;> rfl
  · rintro X P hO _ μ ⟨w, p1, rfl, hw, hpre, hpost⟩ hn
    have hJ : ∀ n : Nat, (∀ (l2 : Int32) (l3 : Int32) (m : Mem), inv_X3_withTrait_4 w p1 μ n l2 l3 m → V X 4 [some (.ref w), some (.int p1), some (.int l2), some (.int l3)] [] m) := by
      intro n
      induction n using Nat.strongRecOn with
      | _ n ih =>
        exact fun l2 l3 m hi => wk_X3_withTrait_4 (J4 := (fun l2 l3 m => ∃ k : Nat, k < n ∧ inv_X3_withTrait_4 w p1 μ k l2 l3 m)) hO hn w p1 hw l2 l3 m hpost (fun l2 l3 m hk => by obtain ⟨k, hk, hi⟩ := hk; exact (ih k hk) l2 l3 m hi) (vp_X3_withTrait_4 w p1 hw μ hpre n l2 l3 m hi)
    exact wk_X3_withTrait_0 (J4 := (fun l2 l3 m => ∃ k : Nat, inv_X3_withTrait_4 w p1 μ k l2 l3 m)) hO hn w p1 hw μ hpost (fun l2 l3 m hk => by obtain ⟨k, hi⟩ := hk; exact (hJ k) l2 l3 m hi) (vp_X3_withTrait_0 w p1 hw μ hpre)
end
section
theorem zz_end : True := trivial
end
