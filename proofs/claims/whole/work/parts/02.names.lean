-- ===== PART A: goes FIRST, ahead of the names: the tables' words, and 'selects' of the private methods out of them =====
/-- a private method of a class that the tables say can be made, by its rows of tables_1 -/
def lw_okq (q : MethodName × Nat) : Prop := (q.1.cls ≠ "java/lang/invoke/MethodHandle" ∧ q.1.cls ≠ "java/lang/invoke/VarHandle") ∧ Cond.instantiable q.1.cls q.2 ∈ tables_1 ∧ Cond.privateMethod q.1 ∈ tables_1 ∧ Cond.instanceMethod q.1 ∈ tables_1
theorem lw_p0 : lw_okq (⟨"Ironbark", "stationOf", "(I)LIronbark$Station;"⟩, 16) := ⟨⟨by decide +kernel, by decide +kernel⟩, List.mem_of_getElem? (i := 28) (by decide +kernel), List.mem_of_getElem? (i := 251) (by decide +kernel), List.mem_of_getElem? (i := 252) (by decide +kernel)⟩
theorem lw_p1 : lw_okq (⟨"java/lang/Throwable", "fillInStackTrace", "(I)Ljava/lang/Throwable;"⟩, 6) := ⟨⟨by decide +kernel, by decide +kernel⟩, List.mem_of_getElem? (i := 296) (by decide +kernel), List.mem_of_getElem? (i := 294) (by decide +kernel), List.mem_of_getElem? (i := 295) (by decide +kernel)⟩
theorem lw_p2 : lw_okq (⟨"Ironbark", "takenTracks", "(I)I"⟩, 16) := ⟨⟨by decide +kernel, by decide +kernel⟩, List.mem_of_getElem? (i := 28) (by decide +kernel), List.mem_of_getElem? (i := 348) (by decide +kernel), List.mem_of_getElem? (i := 349) (by decide +kernel)⟩
theorem lw_p3 : lw_okq (⟨"Ironbark", "requireStation", "(I)V"⟩, 16) := ⟨⟨by decide +kernel, by decide +kernel⟩, List.mem_of_getElem? (i := 28) (by decide +kernel), List.mem_of_getElem? (i := 382) (by decide +kernel), List.mem_of_getElem? (i := 383) (by decide +kernel)⟩
theorem lw_p4 : lw_okq (⟨"java/util/ArrayList", "add", "(Ljava/lang/Object;[Ljava/lang/Object;I)V"⟩, 3) := ⟨⟨by decide +kernel, by decide +kernel⟩, List.mem_of_getElem? (i := 38) (by decide +kernel), List.mem_of_getElem? (i := 453) (by decide +kernel), List.mem_of_getElem? (i := 454) (by decide +kernel)⟩
theorem lw_p5 : lw_okq (⟨"java/util/ArrayList", "grow", "()[Ljava/lang/Object;"⟩, 3) := ⟨⟨by decide +kernel, by decide +kernel⟩, List.mem_of_getElem? (i := 38) (by decide +kernel), List.mem_of_getElem? (i := 457) (by decide +kernel), List.mem_of_getElem? (i := 458) (by decide +kernel)⟩
theorem lw_p6 : lw_okq (⟨"java/util/ArrayList", "grow", "(I)[Ljava/lang/Object;"⟩, 3) := ⟨⟨by decide +kernel, by decide +kernel⟩, List.mem_of_getElem? (i := 38) (by decide +kernel), List.mem_of_getElem? (i := 461) (by decide +kernel), List.mem_of_getElem? (i := 462) (by decide +kernel)⟩
theorem lw_p7 : lw_okq (⟨"Ironbark", "blockOf", "(I)LIronbark$Block;"⟩, 16) := ⟨⟨by decide +kernel, by decide +kernel⟩, List.mem_of_getElem? (i := 28) (by decide +kernel), List.mem_of_getElem? (i := 517) (by decide +kernel), List.mem_of_getElem? (i := 518) (by decide +kernel)⟩
theorem lw_p8 : lw_okq (⟨"Ironbark", "crewOf", "(I)LIronbark$Crew;"⟩, 16) := ⟨⟨by decide +kernel, by decide +kernel⟩, List.mem_of_getElem? (i := 28) (by decide +kernel), List.mem_of_getElem? (i := 631) (by decide +kernel), List.mem_of_getElem? (i := 632) (by decide +kernel)⟩
theorem lw_p9 : lw_okq (⟨"Ironbark", "requireBlock", "(I)V"⟩, 16) := ⟨⟨by decide +kernel, by decide +kernel⟩, List.mem_of_getElem? (i := 28) (by decide +kernel), List.mem_of_getElem? (i := 635) (by decide +kernel), List.mem_of_getElem? (i := 636) (by decide +kernel)⟩
theorem lw_p10 : lw_okq (⟨"Ironbark", "trainOf", "(I)LIronbark$Train;"⟩, 16) := ⟨⟨by decide +kernel, by decide +kernel⟩, List.mem_of_getElem? (i := 28) (by decide +kernel), List.mem_of_getElem? (i := 656) (by decide +kernel), List.mem_of_getElem? (i := 657) (by decide +kernel)⟩
theorem lw_p11 : lw_okq (⟨"Ironbark", "requireTrain", "(I)V"⟩, 16) := ⟨⟨by decide +kernel, by decide +kernel⟩, List.mem_of_getElem? (i := 28) (by decide +kernel), List.mem_of_getElem? (i := 660) (by decide +kernel), List.mem_of_getElem? (i := 661) (by decide +kernel)⟩
theorem lw_p12 : lw_okq (⟨"Ironbark", "engineOf", "(I)LIronbark$Engine;"⟩, 16) := ⟨⟨by decide +kernel, by decide +kernel⟩, List.mem_of_getElem? (i := 28) (by decide +kernel), List.mem_of_getElem? (i := 746) (by decide +kernel), List.mem_of_getElem? (i := 747) (by decide +kernel)⟩
theorem lw_p13 : lw_okq (⟨"Ironbark", "freeTracksAt", "(I)I"⟩, 16) := ⟨⟨by decide +kernel, by decide +kernel⟩, List.mem_of_getElem? (i := 28) (by decide +kernel), List.mem_of_getElem? (i := 750) (by decide +kernel), List.mem_of_getElem? (i := 751) (by decide +kernel)⟩
theorem lw_p14 : lw_okq (⟨"Ironbark", "leastFreeNumber", "()I"⟩, 16) := ⟨⟨by decide +kernel, by decide +kernel⟩, List.mem_of_getElem? (i := 28) (by decide +kernel), List.mem_of_getElem? (i := 754) (by decide +kernel), List.mem_of_getElem? (i := 755) (by decide +kernel)⟩
theorem lw_p15 : lw_okq (⟨"Ironbark", "sendOff", "(LIronbark$Train;I)V"⟩, 16) := ⟨⟨by decide +kernel, by decide +kernel⟩, List.mem_of_getElem? (i := 28) (by decide +kernel), List.mem_of_getElem? (i := 778) (by decide +kernel), List.mem_of_getElem? (i := 779) (by decide +kernel)⟩
def lw_privs_1 : List (MethodName × Nat) := [(⟨"Ironbark", "stationOf", "(I)LIronbark$Station;"⟩, 16), (⟨"java/lang/Throwable", "fillInStackTrace", "(I)Ljava/lang/Throwable;"⟩, 6), (⟨"Ironbark", "takenTracks", "(I)I"⟩, 16), (⟨"Ironbark", "requireStation", "(I)V"⟩, 16), (⟨"java/util/ArrayList", "add", "(Ljava/lang/Object;[Ljava/lang/Object;I)V"⟩, 3), (⟨"java/util/ArrayList", "grow", "()[Ljava/lang/Object;"⟩, 3), (⟨"java/util/ArrayList", "grow", "(I)[Ljava/lang/Object;"⟩, 3), (⟨"Ironbark", "blockOf", "(I)LIronbark$Block;"⟩, 16), (⟨"Ironbark", "crewOf", "(I)LIronbark$Crew;"⟩, 16), (⟨"Ironbark", "requireBlock", "(I)V"⟩, 16), (⟨"Ironbark", "trainOf", "(I)LIronbark$Train;"⟩, 16), (⟨"Ironbark", "requireTrain", "(I)V"⟩, 16), (⟨"Ironbark", "engineOf", "(I)LIronbark$Engine;"⟩, 16), (⟨"Ironbark", "freeTracksAt", "(I)I"⟩, 16), (⟨"Ironbark", "leastFreeNumber", "()I"⟩, 16), (⟨"Ironbark", "sendOff", "(LIronbark$Train;I)V"⟩, 16)]
theorem lw_r1 : ∀ q ∈ lw_privs_1, lw_okq q := List.forall_mem_cons.mpr ⟨lw_p0, List.forall_mem_cons.mpr ⟨lw_p1, List.forall_mem_cons.mpr ⟨lw_p2, List.forall_mem_cons.mpr ⟨lw_p3, List.forall_mem_cons.mpr ⟨lw_p4, List.forall_mem_cons.mpr ⟨lw_p5, List.forall_mem_cons.mpr ⟨lw_p6, List.forall_mem_cons.mpr ⟨lw_p7, List.forall_mem_cons.mpr ⟨lw_p8, List.forall_mem_cons.mpr ⟨lw_p9, List.forall_mem_cons.mpr ⟨lw_p10, List.forall_mem_cons.mpr ⟨lw_p11, List.forall_mem_cons.mpr ⟨lw_p12, List.forall_mem_cons.mpr ⟨lw_p13, List.forall_mem_cons.mpr ⟨lw_p14, List.forall_mem_cons.mpr ⟨lw_p15, fun _ h => absurd h List.not_mem_nil⟩⟩⟩⟩⟩⟩⟩⟩⟩⟩⟩⟩⟩⟩⟩⟩
theorem lw_p16 : lw_okq (⟨"Ironbark", "carOf", "(I)LIronbark$Car;"⟩, 16) := ⟨⟨by decide +kernel, by decide +kernel⟩, List.mem_of_getElem? (i := 28) (by decide +kernel), List.mem_of_getElem? (i := 789) (by decide +kernel), List.mem_of_getElem? (i := 790) (by decide +kernel)⟩
theorem lw_p17 : lw_okq (⟨"Ironbark", "bringToYard", "(II)V"⟩, 16) := ⟨⟨by decide +kernel, by decide +kernel⟩, List.mem_of_getElem? (i := 28) (by decide +kernel), List.mem_of_getElem? (i := 808) (by decide +kernel), List.mem_of_getElem? (i := 809) (by decide +kernel)⟩
theorem lw_p18 : lw_okq (⟨"Ironbark", "endOfDraft", "(I)I"⟩, 16) := ⟨⟨by decide +kernel, by decide +kernel⟩, List.mem_of_getElem? (i := 28) (by decide +kernel), List.mem_of_getElem? (i := 826) (by decide +kernel), List.mem_of_getElem? (i := 827) (by decide +kernel)⟩
theorem lw_p19 : lw_okq (⟨"Ironbark", "arriveAll", "()V"⟩, 16) := ⟨⟨by decide +kernel, by decide +kernel⟩, List.mem_of_getElem? (i := 28) (by decide +kernel), List.mem_of_getElem? (i := 860) (by decide +kernel), List.mem_of_getElem? (i := 861) (by decide +kernel)⟩
theorem lw_p20 : lw_okq (⟨"Ironbark", "arrive", "(LIronbark$Train;)V"⟩, 16) := ⟨⟨by decide +kernel, by decide +kernel⟩, List.mem_of_getElem? (i := 28) (by decide +kernel), List.mem_of_getElem? (i := 864) (by decide +kernel), List.mem_of_getElem? (i := 865) (by decide +kernel)⟩
theorem lw_p21 : lw_okq (⟨"Ironbark", "beginDay", "()V"⟩, 16) := ⟨⟨by decide +kernel, by decide +kernel⟩, List.mem_of_getElem? (i := 28) (by decide +kernel), List.mem_of_getElem? (i := 881) (by decide +kernel), List.mem_of_getElem? (i := 882) (by decide +kernel)⟩
theorem lw_p22 : lw_okq (⟨"Ironbark", "billNumbered", "(I)LIronbark$Bill;"⟩, 16) := ⟨⟨by decide +kernel, by decide +kernel⟩, List.mem_of_getElem? (i := 28) (by decide +kernel), List.mem_of_getElem? (i := 885) (by decide +kernel), List.mem_of_getElem? (i := 886) (by decide +kernel)⟩
theorem lw_p23 : lw_okq (⟨"Ironbark", "enterAll", "()I"⟩, 16) := ⟨⟨by decide +kernel, by decide +kernel⟩, List.mem_of_getElem? (i := 28) (by decide +kernel), List.mem_of_getElem? (i := 890) (by decide +kernel), List.mem_of_getElem? (i := 891) (by decide +kernel)⟩
theorem lw_p24 : lw_okq (⟨"Ironbark", "nextToEnter", "(I)I"⟩, 16) := ⟨⟨by decide +kernel, by decide +kernel⟩, List.mem_of_getElem? (i := 28) (by decide +kernel), List.mem_of_getElem? (i := 894) (by decide +kernel), List.mem_of_getElem? (i := 895) (by decide +kernel)⟩
theorem lw_p25 : lw_okq (⟨"Ironbark", "barOf", "(LIronbark$Train;)I"⟩, 16) := ⟨⟨by decide +kernel, by decide +kernel⟩, List.mem_of_getElem? (i := 28) (by decide +kernel), List.mem_of_getElem? (i := 898) (by decide +kernel), List.mem_of_getElem? (i := 899) (by decide +kernel)⟩
theorem lw_p26 : lw_okq (⟨"Ironbark", "barOfStart", "(LIronbark$Train;LIronbark$Block;)I"⟩, 16) := ⟨⟨by decide +kernel, by decide +kernel⟩, List.mem_of_getElem? (i := 28) (by decide +kernel), List.mem_of_getElem? (i := 902) (by decide +kernel), List.mem_of_getElem? (i := 903) (by decide +kernel)⟩
theorem lw_p27 : lw_okq (⟨"Ironbark", "isWaiting", "(LIronbark$Train;)Z"⟩, 16) := ⟨⟨by decide +kernel, by decide +kernel⟩, List.mem_of_getElem? (i := 28) (by decide +kernel), List.mem_of_getElem? (i := 906) (by decide +kernel), List.mem_of_getElem? (i := 907) (by decide +kernel)⟩
theorem lw_p28 : lw_okq (⟨"Ironbark", "barOfRun", "(LIronbark$Train;LIronbark$Block;I)I"⟩, 16) := ⟨⟨by decide +kernel, by decide +kernel⟩, List.mem_of_getElem? (i := 28) (by decide +kernel), List.mem_of_getElem? (i := 910) (by decide +kernel), List.mem_of_getElem? (i := 911) (by decide +kernel)⟩
theorem lw_p29 : lw_okq (⟨"Ironbark", "enter", "(LIronbark$Train;LIronbark$Block;I)V"⟩, 16) := ⟨⟨by decide +kernel, by decide +kernel⟩, List.mem_of_getElem? (i := 28) (by decide +kernel), List.mem_of_getElem? (i := 921) (by decide +kernel), List.mem_of_getElem? (i := 922) (by decide +kernel)⟩
theorem lw_p30 : lw_okq (⟨"Ironbark", "wreck", "(LIronbark$Train;I)V"⟩, 16) := ⟨⟨by decide +kernel, by decide +kernel⟩, List.mem_of_getElem? (i := 28) (by decide +kernel), List.mem_of_getElem? (i := 932) (by decide +kernel), List.mem_of_getElem? (i := 933) (by decide +kernel)⟩
theorem lw_p31 : lw_okq (⟨"Ironbark", "bringCarsToYard", "(LIronbark$Train;I)V"⟩, 16) := ⟨⟨by decide +kernel, by decide +kernel⟩, List.mem_of_getElem? (i := 28) (by decide +kernel), List.mem_of_getElem? (i := 947) (by decide +kernel), List.mem_of_getElem? (i := 948) (by decide +kernel)⟩
def lw_privs_2 : List (MethodName × Nat) := [(⟨"Ironbark", "carOf", "(I)LIronbark$Car;"⟩, 16), (⟨"Ironbark", "bringToYard", "(II)V"⟩, 16), (⟨"Ironbark", "endOfDraft", "(I)I"⟩, 16), (⟨"Ironbark", "arriveAll", "()V"⟩, 16), (⟨"Ironbark", "arrive", "(LIronbark$Train;)V"⟩, 16), (⟨"Ironbark", "beginDay", "()V"⟩, 16), (⟨"Ironbark", "billNumbered", "(I)LIronbark$Bill;"⟩, 16), (⟨"Ironbark", "enterAll", "()I"⟩, 16), (⟨"Ironbark", "nextToEnter", "(I)I"⟩, 16), (⟨"Ironbark", "barOf", "(LIronbark$Train;)I"⟩, 16), (⟨"Ironbark", "barOfStart", "(LIronbark$Train;LIronbark$Block;)I"⟩, 16), (⟨"Ironbark", "isWaiting", "(LIronbark$Train;)Z"⟩, 16), (⟨"Ironbark", "barOfRun", "(LIronbark$Train;LIronbark$Block;I)I"⟩, 16), (⟨"Ironbark", "enter", "(LIronbark$Train;LIronbark$Block;I)V"⟩, 16), (⟨"Ironbark", "wreck", "(LIronbark$Train;I)V"⟩, 16), (⟨"Ironbark", "bringCarsToYard", "(LIronbark$Train;I)V"⟩, 16)]
theorem lw_r2 : ∀ q ∈ lw_privs_2, lw_okq q := List.forall_mem_cons.mpr ⟨lw_p16, List.forall_mem_cons.mpr ⟨lw_p17, List.forall_mem_cons.mpr ⟨lw_p18, List.forall_mem_cons.mpr ⟨lw_p19, List.forall_mem_cons.mpr ⟨lw_p20, List.forall_mem_cons.mpr ⟨lw_p21, List.forall_mem_cons.mpr ⟨lw_p22, List.forall_mem_cons.mpr ⟨lw_p23, List.forall_mem_cons.mpr ⟨lw_p24, List.forall_mem_cons.mpr ⟨lw_p25, List.forall_mem_cons.mpr ⟨lw_p26, List.forall_mem_cons.mpr ⟨lw_p27, List.forall_mem_cons.mpr ⟨lw_p28, List.forall_mem_cons.mpr ⟨lw_p29, List.forall_mem_cons.mpr ⟨lw_p30, List.forall_mem_cons.mpr ⟨lw_p31, fun _ h => absurd h List.not_mem_nil⟩⟩⟩⟩⟩⟩⟩⟩⟩⟩⟩⟩⟩⟩⟩⟩
theorem lw_p32 : lw_okq (⟨"Ironbark", "appendByGoal", "(LIronbark$Row;I)V"⟩, 16) := ⟨⟨by decide +kernel, by decide +kernel⟩, List.mem_of_getElem? (i := 28) (by decide +kernel), List.mem_of_getElem? (i := 1008) (by decide +kernel), List.mem_of_getElem? (i := 1009) (by decide +kernel)⟩
theorem lw_p33 : lw_okq (⟨"Ironbark", "goalOf", "(I)I"⟩, 16) := ⟨⟨by decide +kernel, by decide +kernel⟩, List.mem_of_getElem? (i := 28) (by decide +kernel), List.mem_of_getElem? (i := 1012) (by decide +kernel), List.mem_of_getElem? (i := 1013) (by decide +kernel)⟩
theorem lw_p34 : lw_okq (⟨"Ironbark", "measureDistances", "(I)V"⟩, 16) := ⟨⟨by decide +kernel, by decide +kernel⟩, List.mem_of_getElem? (i := 28) (by decide +kernel), List.mem_of_getElem? (i := 1115) (by decide +kernel), List.mem_of_getElem? (i := 1116) (by decide +kernel)⟩
theorem lw_p35 : lw_okq (⟨"Ironbark", "isOpen", "(LIronbark$Block;)Z"⟩, 16) := ⟨⟨by decide +kernel, by decide +kernel⟩, List.mem_of_getElem? (i := 28) (by decide +kernel), List.mem_of_getElem? (i := 1120) (by decide +kernel), List.mem_of_getElem? (i := 1121) (by decide +kernel)⟩
theorem lw_p36 : lw_okq (⟨"Ironbark", "shorten", "(III)V"⟩, 16) := ⟨⟨by decide +kernel, by decide +kernel⟩, List.mem_of_getElem? (i := 28) (by decide +kernel), List.mem_of_getElem? (i := 1124) (by decide +kernel), List.mem_of_getElem? (i := 1125) (by decide +kernel)⟩
theorem lw_p37 : lw_okq (⟨"Ironbark", "distanceOf", "(I)I"⟩, 16) := ⟨⟨by decide +kernel, by decide +kernel⟩, List.mem_of_getElem? (i := 28) (by decide +kernel), List.mem_of_getElem? (i := 1128) (by decide +kernel), List.mem_of_getElem? (i := 1129) (by decide +kernel)⟩
theorem lw_p38 : lw_okq (⟨"Ironbark", "firstBlockOfWay", "(I)I"⟩, 16) := ⟨⟨by decide +kernel, by decide +kernel⟩, List.mem_of_getElem? (i := 28) (by decide +kernel), List.mem_of_getElem? (i := 1132) (by decide +kernel), List.mem_of_getElem? (i := 1133) (by decide +kernel)⟩
theorem lw_p39 : lw_okq (⟨"IronbarkModel", "taken", "(I)I"⟩, 65) := ⟨⟨by decide +kernel, by decide +kernel⟩, List.mem_of_getElem? (i := 1136) (by decide +kernel), List.mem_of_getElem? (i := 1353) (by decide +kernel), List.mem_of_getElem? (i := 1354) (by decide +kernel)⟩
theorem lw_p40 : lw_okq (⟨"IronbarkModel", "isBlock", "(I)Z"⟩, 65) := ⟨⟨by decide +kernel, by decide +kernel⟩, List.mem_of_getElem? (i := 1136) (by decide +kernel), List.mem_of_getElem? (i := 1365) (by decide +kernel), List.mem_of_getElem? (i := 1366) (by decide +kernel)⟩
theorem lw_p41 : lw_okq (⟨"IronbarkModel", "isClosed", "(I)Z"⟩, 65) := ⟨⟨by decide +kernel, by decide +kernel⟩, List.mem_of_getElem? (i := 1136) (by decide +kernel), List.mem_of_getElem? (i := 1381) (by decide +kernel), List.mem_of_getElem? (i := 1382) (by decide +kernel)⟩
theorem lw_p42 : lw_okq (⟨"IronbarkModel", "isCrew", "(I)Z"⟩, 65) := ⟨⟨by decide +kernel, by decide +kernel⟩, List.mem_of_getElem? (i := 1136) (by decide +kernel), List.mem_of_getElem? (i := 1397) (by decide +kernel), List.mem_of_getElem? (i := 1398) (by decide +kernel)⟩
theorem lw_p43 : lw_okq (⟨"IronbarkModel", "rests", "(I)Z"⟩, 65) := ⟨⟨by decide +kernel, by decide +kernel⟩, List.mem_of_getElem? (i := 1136) (by decide +kernel), List.mem_of_getElem? (i := 1405) (by decide +kernel), List.mem_of_getElem? (i := 1406) (by decide +kernel)⟩
theorem lw_p44 : lw_okq (⟨"IronbarkModel", "stands", "(I)Z"⟩, 65) := ⟨⟨by decide +kernel, by decide +kernel⟩, List.mem_of_getElem? (i := 1136) (by decide +kernel), List.mem_of_getElem? (i := 1409) (by decide +kernel), List.mem_of_getElem? (i := 1410) (by decide +kernel)⟩
theorem lw_p45 : lw_okq (⟨"IronbarkModel", "comes", "(II)V"⟩, 65) := ⟨⟨by decide +kernel, by decide +kernel⟩, List.mem_of_getElem? (i := 1136) (by decide +kernel), List.mem_of_getElem? (i := 1417) (by decide +kernel), List.mem_of_getElem? (i := 1418) (by decide +kernel)⟩
theorem lw_p46 : lw_okq (⟨"IronbarkModel", "writes", "(III)V"⟩, 65) := ⟨⟨by decide +kernel, by decide +kernel⟩, List.mem_of_getElem? (i := 1136) (by decide +kernel), List.mem_of_getElem? (i := 1421) (by decide +kernel), List.mem_of_getElem? (i := 1422) (by decide +kernel)⟩
theorem lw_p47 : lw_okq (⟨"IronbarkModel", "fails", "(I)I"⟩, 65) := ⟨⟨by decide +kernel, by decide +kernel⟩, List.mem_of_getElem? (i := 1136) (by decide +kernel), List.mem_of_getElem? (i := 1438) (by decide +kernel), List.mem_of_getElem? (i := 1439) (by decide +kernel)⟩
def lw_privs_3 : List (MethodName × Nat) := [(⟨"Ironbark", "appendByGoal", "(LIronbark$Row;I)V"⟩, 16), (⟨"Ironbark", "goalOf", "(I)I"⟩, 16), (⟨"Ironbark", "measureDistances", "(I)V"⟩, 16), (⟨"Ironbark", "isOpen", "(LIronbark$Block;)Z"⟩, 16), (⟨"Ironbark", "shorten", "(III)V"⟩, 16), (⟨"Ironbark", "distanceOf", "(I)I"⟩, 16), (⟨"Ironbark", "firstBlockOfWay", "(I)I"⟩, 16), (⟨"IronbarkModel", "taken", "(I)I"⟩, 65), (⟨"IronbarkModel", "isBlock", "(I)Z"⟩, 65), (⟨"IronbarkModel", "isClosed", "(I)Z"⟩, 65), (⟨"IronbarkModel", "isCrew", "(I)Z"⟩, 65), (⟨"IronbarkModel", "rests", "(I)Z"⟩, 65), (⟨"IronbarkModel", "stands", "(I)Z"⟩, 65), (⟨"IronbarkModel", "comes", "(II)V"⟩, 65), (⟨"IronbarkModel", "writes", "(III)V"⟩, 65), (⟨"IronbarkModel", "fails", "(I)I"⟩, 65)]
theorem lw_r3 : ∀ q ∈ lw_privs_3, lw_okq q := List.forall_mem_cons.mpr ⟨lw_p32, List.forall_mem_cons.mpr ⟨lw_p33, List.forall_mem_cons.mpr ⟨lw_p34, List.forall_mem_cons.mpr ⟨lw_p35, List.forall_mem_cons.mpr ⟨lw_p36, List.forall_mem_cons.mpr ⟨lw_p37, List.forall_mem_cons.mpr ⟨lw_p38, List.forall_mem_cons.mpr ⟨lw_p39, List.forall_mem_cons.mpr ⟨lw_p40, List.forall_mem_cons.mpr ⟨lw_p41, List.forall_mem_cons.mpr ⟨lw_p42, List.forall_mem_cons.mpr ⟨lw_p43, List.forall_mem_cons.mpr ⟨lw_p44, List.forall_mem_cons.mpr ⟨lw_p45, List.forall_mem_cons.mpr ⟨lw_p46, List.forall_mem_cons.mpr ⟨lw_p47, fun _ h => absurd h List.not_mem_nil⟩⟩⟩⟩⟩⟩⟩⟩⟩⟩⟩⟩⟩⟩⟩⟩
theorem lw_p48 : lw_okq (⟨"IronbarkModel", "isTrain", "(I)Z"⟩, 65) := ⟨⟨by decide +kernel, by decide +kernel⟩, List.mem_of_getElem? (i := 1136) (by decide +kernel), List.mem_of_getElem? (i := 1446) (by decide +kernel), List.mem_of_getElem? (i := 1447) (by decide +kernel)⟩
theorem lw_p49 : lw_okq (⟨"IronbarkModel", "holds", "(I)Z"⟩, 65) := ⟨⟨by decide +kernel, by decide +kernel⟩, List.mem_of_getElem? (i := 1136) (by decide +kernel), List.mem_of_getElem? (i := 1450) (by decide +kernel), List.mem_of_getElem? (i := 1451) (by decide +kernel)⟩
theorem lw_p50 : lw_okq (⟨"IronbarkModel", "ends", "(II)V"⟩, 65) := ⟨⟨by decide +kernel, by decide +kernel⟩, List.mem_of_getElem? (i := 1136) (by decide +kernel), List.mem_of_getElem? (i := 1454) (by decide +kernel), List.mem_of_getElem? (i := 1455) (by decide +kernel)⟩
theorem lw_p51 : lw_okq (⟨"IronbarkModel", "isCar", "(I)Z"⟩, 65) := ⟨⟨by decide +kernel, by decide +kernel⟩, List.mem_of_getElem? (i := 1136) (by decide +kernel), List.mem_of_getElem? (i := 1462) (by decide +kernel), List.mem_of_getElem? (i := 1463) (by decide +kernel)⟩
theorem lw_p52 : lw_okq (⟨"IronbarkModel", "other", "(II)I"⟩, 65) := ⟨⟨by decide +kernel, by decide +kernel⟩, List.mem_of_getElem? (i := 1136) (by decide +kernel), List.mem_of_getElem? (i := 1478) (by decide +kernel), List.mem_of_getElem? (i := 1479) (by decide +kernel)⟩
theorem lw_p53 : lw_okq (⟨"IronbarkModel", "ticks", "()I"⟩, 65) := ⟨⟨by decide +kernel, by decide +kernel⟩, List.mem_of_getElem? (i := 1136) (by decide +kernel), List.mem_of_getElem? (i := 1490) (by decide +kernel), List.mem_of_getElem? (i := 1491) (by decide +kernel)⟩
theorem lw_p54 : lw_okq (⟨"IronbarkModel", "arrives", "(I)V"⟩, 65) := ⟨⟨by decide +kernel, by decide +kernel⟩, List.mem_of_getElem? (i := 1136) (by decide +kernel), List.mem_of_getElem? (i := 1494) (by decide +kernel), List.mem_of_getElem? (i := 1495) (by decide +kernel)⟩
theorem lw_p55 : lw_okq (⟨"IronbarkModel", "pays", "()V"⟩, 65) := ⟨⟨by decide +kernel, by decide +kernel⟩, List.mem_of_getElem? (i := 1136) (by decide +kernel), List.mem_of_getElem? (i := 1498) (by decide +kernel), List.mem_of_getElem? (i := 1499) (by decide +kernel)⟩
theorem lw_p56 : lw_okq (⟨"IronbarkModel", "bar", "(II)I"⟩, 65) := ⟨⟨by decide +kernel, by decide +kernel⟩, List.mem_of_getElem? (i := 1136) (by decide +kernel), List.mem_of_getElem? (i := 1502) (by decide +kernel), List.mem_of_getElem? (i := 1503) (by decide +kernel)⟩
theorem lw_p57 : lw_okq (⟨"IronbarkModel", "bars", "(II)Z"⟩, 65) := ⟨⟨by decide +kernel, by decide +kernel⟩, List.mem_of_getElem? (i := 1136) (by decide +kernel), List.mem_of_getElem? (i := 1506) (by decide +kernel), List.mem_of_getElem? (i := 1507) (by decide +kernel)⟩
theorem lw_p58 : lw_okq (⟨"IronbarkModel", "isOthers", "(II)Z"⟩, 65) := ⟨⟨by decide +kernel, by decide +kernel⟩, List.mem_of_getElem? (i := 1136) (by decide +kernel), List.mem_of_getElem? (i := 1510) (by decide +kernel), List.mem_of_getElem? (i := 1511) (by decide +kernel)⟩
theorem lw_p59 : lw_okq (⟨"IronbarkModel", "clears", "(II)I"⟩, 65) := ⟨⟨by decide +kernel, by decide +kernel⟩, List.mem_of_getElem? (i := 1136) (by decide +kernel), List.mem_of_getElem? (i := 1514) (by decide +kernel), List.mem_of_getElem? (i := 1515) (by decide +kernel)⟩
theorem lw_p60 : lw_okq (⟨"IronbarkModel", "runs", "(II)I"⟩, 65) := ⟨⟨by decide +kernel, by decide +kernel⟩, List.mem_of_getElem? (i := 1136) (by decide +kernel), List.mem_of_getElem? (i := 1518) (by decide +kernel), List.mem_of_getElem? (i := 1519) (by decide +kernel)⟩
theorem lw_p61 : lw_okq (⟨"IronbarkModel", "weight", "(I)I"⟩, 65) := ⟨⟨by decide +kernel, by decide +kernel⟩, List.mem_of_getElem? (i := 1136) (by decide +kernel), List.mem_of_getElem? (i := 1522) (by decide +kernel), List.mem_of_getElem? (i := 1523) (by decide +kernel)⟩
theorem lw_p62 : lw_okq (⟨"IronbarkModel", "enters", "(I)V"⟩, 65) := ⟨⟨by decide +kernel, by decide +kernel⟩, List.mem_of_getElem? (i := 1136) (by decide +kernel), List.mem_of_getElem? (i := 1526) (by decide +kernel), List.mem_of_getElem? (i := 1527) (by decide +kernel)⟩
theorem lw_p63 : lw_okq (⟨"IronbarkModel", "wrecks", "(II)V"⟩, 65) := ⟨⟨by decide +kernel, by decide +kernel⟩, List.mem_of_getElem? (i := 1136) (by decide +kernel), List.mem_of_getElem? (i := 1534) (by decide +kernel), List.mem_of_getElem? (i := 1535) (by decide +kernel)⟩
def lw_privs_4 : List (MethodName × Nat) := [(⟨"IronbarkModel", "isTrain", "(I)Z"⟩, 65), (⟨"IronbarkModel", "holds", "(I)Z"⟩, 65), (⟨"IronbarkModel", "ends", "(II)V"⟩, 65), (⟨"IronbarkModel", "isCar", "(I)Z"⟩, 65), (⟨"IronbarkModel", "other", "(II)I"⟩, 65), (⟨"IronbarkModel", "ticks", "()I"⟩, 65), (⟨"IronbarkModel", "arrives", "(I)V"⟩, 65), (⟨"IronbarkModel", "pays", "()V"⟩, 65), (⟨"IronbarkModel", "bar", "(II)I"⟩, 65), (⟨"IronbarkModel", "bars", "(II)Z"⟩, 65), (⟨"IronbarkModel", "isOthers", "(II)Z"⟩, 65), (⟨"IronbarkModel", "clears", "(II)I"⟩, 65), (⟨"IronbarkModel", "runs", "(II)I"⟩, 65), (⟨"IronbarkModel", "weight", "(I)I"⟩, 65), (⟨"IronbarkModel", "enters", "(I)V"⟩, 65), (⟨"IronbarkModel", "wrecks", "(II)V"⟩, 65)]
theorem lw_r4 : ∀ q ∈ lw_privs_4, lw_okq q := List.forall_mem_cons.mpr ⟨lw_p48, List.forall_mem_cons.mpr ⟨lw_p49, List.forall_mem_cons.mpr ⟨lw_p50, List.forall_mem_cons.mpr ⟨lw_p51, List.forall_mem_cons.mpr ⟨lw_p52, List.forall_mem_cons.mpr ⟨lw_p53, List.forall_mem_cons.mpr ⟨lw_p54, List.forall_mem_cons.mpr ⟨lw_p55, List.forall_mem_cons.mpr ⟨lw_p56, List.forall_mem_cons.mpr ⟨lw_p57, List.forall_mem_cons.mpr ⟨lw_p58, List.forall_mem_cons.mpr ⟨lw_p59, List.forall_mem_cons.mpr ⟨lw_p60, List.forall_mem_cons.mpr ⟨lw_p61, List.forall_mem_cons.mpr ⟨lw_p62, List.forall_mem_cons.mpr ⟨lw_p63, fun _ h => absurd h List.not_mem_nil⟩⟩⟩⟩⟩⟩⟩⟩⟩⟩⟩⟩⟩⟩⟩⟩
theorem lw_p64 : lw_okq (⟨"IronbarkModel", "goal", "(I)I"⟩, 65) := ⟨⟨by decide +kernel, by decide +kernel⟩, List.mem_of_getElem? (i := 1136) (by decide +kernel), List.mem_of_getElem? (i := 1562) (by decide +kernel), List.mem_of_getElem? (i := 1563) (by decide +kernel)⟩
def lw_privs_5 : List (MethodName × Nat) := [(⟨"IronbarkModel", "goal", "(I)I"⟩, 65)]
theorem lw_r5 : ∀ q ∈ lw_privs_5, lw_okq q := List.forall_mem_cons.mpr ⟨lw_p64, fun _ h => absurd h List.not_mem_nil⟩
def lw_privs : List (MethodName × Nat) := lw_privs_1 ++ (lw_privs_2 ++ (lw_privs_3 ++ (lw_privs_4 ++ (lw_privs_5))))
def lw_tbl : List Cond := k2_sels lw_privs ++ tables_1
theorem lw_privs_ok : ∀ q ∈ lw_privs, lw_okq q := by
  show ∀ q ∈ lw_privs_1 ++ (lw_privs_2 ++ (lw_privs_3 ++ (lw_privs_4 ++ (lw_privs_5)))), lw_okq q
  exact List.forall_mem_append.mpr ⟨lw_r1, List.forall_mem_append.mpr ⟨lw_r2, List.forall_mem_append.mpr ⟨lw_r3, List.forall_mem_append.mpr ⟨lw_r4, lw_r5⟩⟩⟩⟩
-- ===== end of PART A; then your names; then what follows =====
def RX0 : String := "Ironbark$Bill"
def TX0 : u_T := fun k => match k with
  | 0 => ("Ironbark$Bill", "from", "I", true)
  | 1 => ("Ironbark$Bill", "to", "I", true)
  | 2 => ("Ironbark$Bill", "rate", "I", true)
  | _ => ("Ironbark$Bill", "wasLoaded", "Z", false)
def tyX0 : Nat → FieldType := fun k => match k with
  | 0 => .int
  | 1 => .int
  | 2 => .int
  | _ => .boolean
abbrev wsX00 : List Cond := u_ws RX0 TX0 4
theorem nmX0 : ∀ a, a < 4 → ∀ b, b < 4 → a ≠ b → (TX0 a).2.1 ≠ (TX0 b).2.1 := by decide +kernel
theorem tyX0_ok : ∀ k, k < 4 → parseFieldDescriptor (TX0 k).2.2.1 = some (tyX0 k) := by decide +kernel
abbrev cX0_init : ByteArray := prog_2_method_1_code
def yX0_init : MethodName := ⟨RX0, "<init>", "(III)V"⟩
def RX1 : String := "Ironbark$Block"
def TX1 : u_T := fun k => match k with
  | 0 => ("Ironbark$Block", "first", "I", true)
  | 1 => ("Ironbark$Block", "second", "I", true)
  | 2 => ("Ironbark$Block", "minutes", "I", true)
  | 3 => ("Ironbark$Block", "grade", "I", true)
  | 4 => ("Ironbark$Block", "wear", "I", false)
  | 5 => ("Ironbark$Block", "failed", "Z", false)
  | 6 => ("Ironbark$Block", "flagged", "Z", false)
  | 7 => ("Ironbark$Block", "othersFrom", "I", false)
  | 8 => ("Ironbark$Block", "othersTo", "I", false)
  | 9 => ("Ironbark$Block", "closedUntil", "I", false)
  | 10 => ("Ironbark$Block", "hasWrecks", "Z", false)
  | 11 => ("Ironbark$Block", "holder", "I", false)
  | _ => ("Ironbark$Block", "clearAt", "I", false)
def tyX1 : Nat → FieldType := fun k => match k with
  | 0 => .int
  | 1 => .int
  | 2 => .int
  | 3 => .int
  | 4 => .int
  | 5 => .boolean
  | 6 => .boolean
  | 7 => .int
  | 8 => .int
  | 9 => .int
  | 10 => .boolean
  | 11 => .int
  | _ => .int
abbrev wsX10 : List Cond := u_ws RX1 TX1 13
theorem nmX1 : ∀ a, a < 13 → ∀ b, b < 13 → a ≠ b → (TX1 a).2.1 ≠ (TX1 b).2.1 := by decide +kernel
theorem tyX1_ok : ∀ k, k < 13 → parseFieldDescriptor (TX1 k).2.2.1 = some (tyX1 k) := by decide +kernel
abbrev cX1_init : ByteArray := prog_3_method_1_code
def yX1_init : MethodName := ⟨RX1, "<init>", "(IIII)V"⟩
abbrev cX1_otherEnd : ByteArray := prog_3_method_2_code
def yX1_otherEnd : MethodName := ⟨RX1, "otherEnd", "(I)I"⟩
abbrev cX1_holderAt : ByteArray := prog_3_method_3_code
def yX1_holderAt : MethodName := ⟨RX1, "holderAt", "(I)I"⟩
abbrev cX1_isClosedAt : ByteArray := prog_3_method_4_code
def yX1_isClosedAt : MethodName := ⟨RX1, "isClosedAt", "(I)Z"⟩
abbrev cX1_isOfOthers : ByteArray := prog_3_method_5_code
def yX1_isOfOthers : MethodName := ⟨RX1, "isOfOthers", "(II)Z"⟩
def RX2 : String := "Ironbark$Car"
def TX2 : u_T := fun k => match k with
  | 0 => ("Ironbark$Car", "home", "I", true)
  | 1 => ("Ironbark$Car", "station", "I", false)
  | 2 => ("Ironbark$Car", "train", "I", false)
  | 3 => ("Ironbark$Car", "bill", "I", false)
  | _ => ("Ironbark$Car", "papers", "LIronbark$Row;", true)
def tyX2 : Nat → FieldType := fun k => match k with
  | 0 => .int
  | 1 => .int
  | 2 => .int
  | 3 => .int
  | _ => .object "Ironbark$Row"
abbrev wsX20 : List Cond := u_ws RX2 TX2 5
theorem nmX2 : ∀ a, a < 5 → ∀ b, b < 5 → a ≠ b → (TX2 a).2.1 ≠ (TX2 b).2.1 := by decide +kernel
theorem tyX2_ok : ∀ k, k < 5 → parseFieldDescriptor (TX2 k).2.2.1 = some (tyX2 k) := by decide +kernel
abbrev cX2_init : ByteArray := prog_4_method_1_code
def yX2_init : MethodName := ⟨RX2, "<init>", "(I)V"⟩
abbrev cX2_weight : ByteArray := prog_4_method_2_code
def yX2_weight : MethodName := ⟨RX2, "weight", "()I"⟩
abbrev cX2_write : ByteArray := prog_4_method_3_code
def yX2_write : MethodName := ⟨RX2, "write", "(II)V"⟩
def RX3 : String := "Ironbark$Crew"
def TX3 : u_T := fun k => match k with
  | 0 => ("Ironbark$Crew", "station", "I", false)
  | 1 => ("Ironbark$Crew", "train", "I", false)
  | 2 => ("Ironbark$Crew", "known", "I", false)
  | 3 => ("Ironbark$Crew", "duty", "I", false)
  | _ => ("Ironbark$Crew", "restEnd", "I", false)
def tyX3 : Nat → FieldType := fun k => match k with
  | 0 => .int
  | 1 => .int
  | 2 => .int
  | 3 => .int
  | _ => .int
abbrev wsX30 : List Cond := u_ws RX3 TX3 5
theorem nmX3 : ∀ a, a < 5 → ∀ b, b < 5 → a ≠ b → (TX3 a).2.1 ≠ (TX3 b).2.1 := by decide +kernel
theorem tyX3_ok : ∀ k, k < 5 → parseFieldDescriptor (TX3 k).2.2.1 = some (tyX3 k) := by decide +kernel
abbrev cX3_init : ByteArray := prog_5_method_1_code
def yX3_init : MethodName := ⟨RX3, "<init>", "(I)V"⟩
abbrev cX3_isRestingAt : ByteArray := prog_5_method_2_code
def yX3_isRestingAt : MethodName := ⟨RX3, "isRestingAt", "(I)Z"⟩
def RX4 : String := "Ironbark$Engine"
def TX4 : u_T := fun k => match k with
  | 0 => ("Ironbark$Engine", "power", "I", true)
  | 1 => ("Ironbark$Engine", "station", "I", false)
  | _ => ("Ironbark$Engine", "train", "I", false)
def tyX4 : Nat → FieldType := fun k => match k with
  | 0 => .int
  | 1 => .int
  | _ => .int
abbrev wsX40 : List Cond := u_ws RX4 TX4 3
theorem nmX4 : ∀ a, a < 3 → ∀ b, b < 3 → a ≠ b → (TX4 a).2.1 ≠ (TX4 b).2.1 := by decide +kernel
theorem tyX4_ok : ∀ k, k < 3 → parseFieldDescriptor (TX4 k).2.2.1 = some (tyX4 k) := by decide +kernel
abbrev cX4_init : ByteArray := prog_6_method_1_code
def yX4_init : MethodName := ⟨RX4, "<init>", "(II)V"⟩
def RX5 : String := "Ironbark$Row"
def TX5 : u_T := fun k => match k with
  | 0 => ("Ironbark$Row", "items", "[I", false)
  | _ => ("Ironbark$Row", "count", "I", false)
def tyX5 : Nat → FieldType := fun k => match k with
  | 0 => .array .int
  | _ => .int
abbrev wsX50 : List Cond := u_ws RX5 TX5 2
theorem nmX5 : ∀ a, a < 2 → ∀ b, b < 2 → a ≠ b → (TX5 a).2.1 ≠ (TX5 b).2.1 := by decide +kernel
theorem tyX5_ok : ∀ k, k < 2 → parseFieldDescriptor (TX5 k).2.2.1 = some (tyX5 k) := by decide +kernel
abbrev cX5_init : ByteArray := prog_7_method_1_code
def yX5_init : MethodName := ⟨RX5, "<init>", "(I)V"⟩
abbrev cX5_at : ByteArray := prog_7_method_2_code
def yX5_at : MethodName := ⟨RX5, "at", "(I)I"⟩
abbrev cX5_append : ByteArray := prog_7_method_3_code
def yX5_append : MethodName := ⟨RX5, "append", "(I)V"⟩
abbrev cX5_drop : ByteArray := prog_7_method_4_code
def yX5_drop : MethodName := ⟨RX5, "drop", "(I)V"⟩
abbrev cX5_copy : ByteArray := prog_7_method_5_code
def yX5_copy : MethodName := ⟨RX5, "copy", "(LIronbark$Row;)V"⟩
abbrev cX5_empty : ByteArray := prog_7_method_6_code
def yX5_empty : MethodName := ⟨RX5, "empty", "()V"⟩
def RX6 : String := "Ironbark$Station"
def TX6 : u_T := fun k => match k with
  | 0 => ("Ironbark$Station", "tracks", "I", false)
  | _ => ("Ironbark$Station", "yard", "LIronbark$Row;", true)
def tyX6 : Nat → FieldType := fun k => match k with
  | 0 => .int
  | _ => .object "Ironbark$Row"
abbrev wsX60 : List Cond := u_ws RX6 TX6 2
theorem nmX6 : ∀ a, a < 2 → ∀ b, b < 2 → a ≠ b → (TX6 a).2.1 ≠ (TX6 b).2.1 := by decide +kernel
theorem tyX6_ok : ∀ k, k < 2 → parseFieldDescriptor (TX6 k).2.2.1 = some (tyX6 k) := by decide +kernel
abbrev cX6_init : ByteArray := prog_8_method_1_code
def yX6_init : MethodName := ⟨RX6, "<init>", "()V"⟩
def RX7 : String := "Ironbark$Train"
def TX7 : u_T := fun k => match k with
  | 0 => ("Ironbark$Train", "number", "I", true)
  | 1 => ("Ironbark$Train", "state", "I", false)
  | 2 => ("Ironbark$Train", "engine", "I", false)
  | 3 => ("Ironbark$Train", "crew", "I", false)
  | 4 => ("Ironbark$Train", "power", "I", false)
  | 5 => ("Ironbark$Train", "station", "I", false)
  | 6 => ("Ironbark$Train", "block", "I", false)
  | 7 => ("Ironbark$Train", "arrival", "I", false)
  | 8 => ("Ironbark$Train", "weight", "I", false)
  | 9 => ("Ironbark$Train", "cars", "LIronbark$Row;", true)
  | 10 => ("Ironbark$Train", "way", "LIronbark$Row;", true)
  | 11 => ("Ironbark$Train", "entered", "I", false)
  | 12 => ("Ironbark$Train", "minute", "I", false)
  | 13 => ("Ironbark$Train", "rank", "I", false)
  | 14 => ("Ironbark$Train", "awaited", "I", false)
  | 15 => ("Ironbark$Train", "awaitedAt", "I", false)
  | _ => ("Ironbark$Train", "clearAt", "[I", true)
def tyX7 : Nat → FieldType := fun k => match k with
  | 0 => .int
  | 1 => .int
  | 2 => .int
  | 3 => .int
  | 4 => .int
  | 5 => .int
  | 6 => .int
  | 7 => .int
  | 8 => .int
  | 9 => .object "Ironbark$Row"
  | 10 => .object "Ironbark$Row"
  | 11 => .int
  | 12 => .int
  | 13 => .int
  | 14 => .int
  | 15 => .int
  | _ => .array .int
abbrev wsX70 : List Cond := u_ws RX7 TX7 17
theorem nmX7 : ∀ a, a < 17 → ∀ b, b < 17 → a ≠ b → (TX7 a).2.1 ≠ (TX7 b).2.1 := by decide +kernel
theorem tyX7_ok : ∀ k, k < 17 → parseFieldDescriptor (TX7 k).2.2.1 = some (tyX7 k) := by decide +kernel
abbrev cX7_init : ByteArray := prog_9_method_1_code
def yX7_init : MethodName := ⟨RX7, "<init>", "(I)V"⟩
abbrev cX7_start : ByteArray := prog_9_method_2_code
def yX7_start : MethodName := ⟨RX7, "start", "(IIII)V"⟩
abbrev cX7_standWrecked : ByteArray := prog_9_method_3_code
def yX7_standWrecked : MethodName := ⟨RX7, "standWrecked", "(I)V"⟩
abbrev cX7_stands : ByteArray := prog_9_method_4_code
def yX7_stands : MethodName := ⟨RX7, "stands", "()Z"⟩
abbrev cX7_takesTrackAt : ByteArray := prog_9_method_5_code
def yX7_takesTrackAt : MethodName := ⟨RX7, "takesTrackAt", "(I)Z"⟩
abbrev cX7_nextBlock : ByteArray := prog_9_method_6_code
def yX7_nextBlock : MethodName := ⟨RX7, "nextBlock", "()I"⟩
abbrev cX7_minutesToClear : ByteArray := prog_9_method_7_code
def yX7_minutesToClear : MethodName := ⟨RX7, "minutesToClear", "()I"⟩
abbrev cX7_notClear : ByteArray := prog_9_method_8_code
def yX7_notClear : MethodName := ⟨RX7, "notClear", "(II)V"⟩
abbrev cX7_isClearAt : ByteArray := prog_9_method_9_code
def yX7_isClearAt : MethodName := ⟨RX7, "isClearAt", "(I)Z"⟩
abbrev cX7_holds : ByteArray := prog_9_method_10_code
def yX7_holds : MethodName := ⟨RX7, "holds", "(II)Z"⟩
def RX8 : String := "Ironbark"
def TX8 : u_T := fun k => match k with
  | 0 => ("Ironbark", "stations", "[LIronbark$Station;", true)
  | 1 => ("Ironbark", "blocks", "Ljava/util/ArrayList;", true)
  | 2 => ("Ironbark", "engines", "Ljava/util/ArrayList;", true)
  | 3 => ("Ironbark", "crews", "Ljava/util/ArrayList;", true)
  | 4 => ("Ironbark", "cars", "Ljava/util/ArrayList;", true)
  | 5 => ("Ironbark", "bills", "Ljava/util/ArrayList;", true)
  | 6 => ("Ironbark", "trains", "[LIronbark$Train;", true)
  | 7 => ("Ironbark", "ownRates", "[I", true)
  | 8 => ("Ironbark", "rivalRates", "[I", true)
  | 9 => ("Ironbark", "draft", "LIronbark$Row;", true)
  | 10 => ("Ironbark", "sorted", "LIronbark$Row;", true)
  | 11 => ("Ironbark", "distances", "[I", true)
  | 12 => ("Ironbark", "now", "I", false)
  | 13 => ("Ironbark", "money", "I", false)
  | 14 => ("Ironbark", "owed", "I", false)
  | _ => ("Ironbark", "lastBroken", "I", false)
def tyX8 : Nat → FieldType := fun k => match k with
  | 0 => .array (.object "Ironbark$Station")
  | 1 => .object "java/util/ArrayList"
  | 2 => .object "java/util/ArrayList"
  | 3 => .object "java/util/ArrayList"
  | 4 => .object "java/util/ArrayList"
  | 5 => .object "java/util/ArrayList"
  | 6 => .array (.object "Ironbark$Train")
  | 7 => .array .int
  | 8 => .array .int
  | 9 => .object "Ironbark$Row"
  | 10 => .object "Ironbark$Row"
  | 11 => .array .int
  | 12 => .int
  | 13 => .int
  | 14 => .int
  | _ => .int
abbrev wsX80 : List Cond := u_ws RX8 TX8 16
theorem nmX8 : ∀ a, a < 16 → ∀ b, b < 16 → a ≠ b → (TX8 a).2.1 ≠ (TX8 b).2.1 := by decide +kernel
theorem tyX8_ok : ∀ k, k < 16 → parseFieldDescriptor (TX8 k).2.2.1 = some (tyX8 k) := by decide +kernel
abbrev cX8_init : ByteArray := prog_1_method_1_code
def yX8_init : MethodName := ⟨RX8, "<init>", "()V"⟩
abbrev cX8_tracks : ByteArray := prog_1_method_2_code
def yX8_tracks : MethodName := ⟨RX8, "tracks", "(II)I"⟩
abbrev cX8_lay : ByteArray := prog_1_method_3_code
def yX8_lay : MethodName := ⟨RX8, "lay", "(IIII)I"⟩
abbrev cX8_fail : ByteArray := prog_1_method_4_code
def yX8_fail : MethodName := ⟨RX8, "fail", "(IZ)Z"⟩
abbrev cX8_flag : ByteArray := prog_1_method_5_code
def yX8_flag : MethodName := ⟨RX8, "flag", "(I)V"⟩
abbrev cX8_hours : ByteArray := prog_1_method_6_code
def yX8_hours : MethodName := ⟨RX8, "hours", "(III)V"⟩
abbrev cX8_repair : ByteArray := prog_1_method_7_code
def yX8_repair : MethodName := ⟨RX8, "repair", "(I)I"⟩
abbrev cX8_engine : ByteArray := prog_1_method_8_code
def yX8_engine : MethodName := ⟨RX8, "engine", "(II)I"⟩
abbrev cX8_crew : ByteArray := prog_1_method_9_code
def yX8_crew : MethodName := ⟨RX8, "crew", "(I)I"⟩
abbrev cX8_learn : ByteArray := prog_1_method_10_code
def yX8_learn : MethodName := ⟨RX8, "learn", "(II)I"⟩
abbrev cX8_rest : ByteArray := prog_1_method_11_code
def yX8_rest : MethodName := ⟨RX8, "rest", "(I)I"⟩
abbrev cX8_car : ByteArray := prog_1_method_12_code
def yX8_car : MethodName := ⟨RX8, "car", "(I)I"⟩
abbrev cX8_borrow : ByteArray := prog_1_method_13_code
def yX8_borrow : MethodName := ⟨RX8, "borrow", "(I)I"⟩
abbrev cX8_repay : ByteArray := prog_1_method_14_code
def yX8_repay : MethodName := ⟨RX8, "repay", "(I)I"⟩
abbrev cX8_form : ByteArray := prog_1_method_15_code
def yX8_form : MethodName := ⟨RX8, "form", "(II)I"⟩
abbrev cX8_dissolve : ByteArray := prog_1_method_16_code
def yX8_dissolve : MethodName := ⟨RX8, "dissolve", "(I)I"⟩
abbrev cX8_couple : ByteArray := prog_1_method_17_code
def yX8_couple : MethodName := ⟨RX8, "couple", "(II)I"⟩
abbrev cX8_uncouple : ByteArray := prog_1_method_18_code
def yX8_uncouple : MethodName := ⟨RX8, "uncouple", "(II)I"⟩
abbrev cX8_leg : ByteArray := prog_1_method_19_code
def yX8_leg : MethodName := ⟨RX8, "leg", "(I)I"⟩
abbrev cX8_plan : ByteArray := prog_1_method_20_code
def yX8_plan : MethodName := ⟨RX8, "plan", "(III)I"⟩
abbrev cX8_await : ByteArray := prog_1_method_21_code
def yX8_await : MethodName := ⟨RX8, "await", "(III)V"⟩
abbrev cX8_run : ByteArray := prog_1_method_22_code
def yX8_run : MethodName := ⟨RX8, "run", "(I)I"⟩
abbrev cX8_passSignal : ByteArray := prog_1_method_23_code
def yX8_passSignal : MethodName := ⟨RX8, "passSignal", "(I)Z"⟩
abbrev cX8_clear : ByteArray := prog_1_method_24_code
def yX8_clear : MethodName := ⟨RX8, "clear", "(I)I"⟩
abbrev cX8_rate : ByteArray := prog_1_method_25_code
def yX8_rate : MethodName := ⟨RX8, "rate", "(IIZI)I"⟩
abbrev cX8_offer : ByteArray := prog_1_method_26_code
def yX8_offer : MethodName := ⟨RX8, "offer", "(II)I"⟩
abbrev cX8_load : ByteArray := prog_1_method_27_code
def yX8_load : MethodName := ⟨RX8, "load", "(II)V"⟩
abbrev cX8_unload : ByteArray := prog_1_method_28_code
def yX8_unload : MethodName := ⟨RX8, "unload", "(I)I"⟩
abbrev cX8_sort : ByteArray := prog_1_method_29_code
def yX8_sort : MethodName := ⟨RX8, "sort", "(I)I"⟩
abbrev cX8_clock : ByteArray := prog_1_method_30_code
def yX8_clock : MethodName := ⟨RX8, "clock", "()I"⟩
abbrev cX8_cash : ByteArray := prog_1_method_31_code
def yX8_cash : MethodName := ⟨RX8, "cash", "()I"⟩
abbrev cX8_debt : ByteArray := prog_1_method_32_code
def yX8_debt : MethodName := ⟨RX8, "debt", "()I"⟩
abbrev cX8_broken : ByteArray := prog_1_method_33_code
def yX8_broken : MethodName := ⟨RX8, "broken", "()I"⟩
abbrev cX8_freeTracks : ByteArray := prog_1_method_34_code
def yX8_freeTracks : MethodName := ⟨RX8, "freeTracks", "(I)I"⟩
abbrev cX8_holder : ByteArray := prog_1_method_35_code
def yX8_holder : MethodName := ⟨RX8, "holder", "(I)I"⟩
abbrev cX8_holderByTrains : ByteArray := prog_1_method_36_code
def yX8_holderByTrains : MethodName := ⟨RX8, "holderByTrains", "(I)I"⟩
abbrev cX8_block : ByteArray := prog_1_method_37_code
def yX8_block : MethodName := ⟨RX8, "block", "(II)I"⟩
abbrev cX8_train : ByteArray := prog_1_method_38_code
def yX8_train : MethodName := ⟨RX8, "train", "(II)I"⟩
abbrev cX8_barred : ByteArray := prog_1_method_39_code
def yX8_barred : MethodName := ⟨RX8, "barred", "(I)I"⟩
abbrev cX8_duty : ByteArray := prog_1_method_40_code
def yX8_duty : MethodName := ⟨RX8, "duty", "(I)I"⟩
abbrev cX8_carAt : ByteArray := prog_1_method_41_code
def yX8_carAt : MethodName := ⟨RX8, "carAt", "(I)I"⟩
abbrev cX8_carByPapers : ByteArray := prog_1_method_42_code
def yX8_carByPapers : MethodName := ⟨RX8, "carByPapers", "(I)I"⟩
abbrev cX8_billOf : ByteArray := prog_1_method_43_code
def yX8_billOf : MethodName := ⟨RX8, "billOf", "(I)I"⟩
abbrev cX8_paper : ByteArray := prog_1_method_44_code
def yX8_paper : MethodName := ⟨RX8, "paper", "(II)I"⟩
abbrev cX8_yardAt : ByteArray := prog_1_method_45_code
def yX8_yardAt : MethodName := ⟨RX8, "yardAt", "(II)I"⟩
abbrev cX8_homeward : ByteArray := prog_1_method_46_code
def yX8_homeward : MethodName := ⟨RX8, "homeward", "(I)I"⟩
abbrev cX8_requireArgument : ByteArray := prog_1_method_47_code
def yX8_requireArgument : MethodName := ⟨RX8, "requireArgument", "(Z)V"⟩
abbrev cX8_requireRange : ByteArray := prog_1_method_48_code
def yX8_requireRange : MethodName := ⟨RX8, "requireRange", "(III)V"⟩
abbrev cX8_requireState : ByteArray := prog_1_method_49_code
def yX8_requireState : MethodName := ⟨RX8, "requireState", "(Z)V"⟩
abbrev cX8_requireIndex : ByteArray := prog_1_method_50_code
def yX8_requireIndex : MethodName := ⟨RX8, "requireIndex", "(II)V"⟩
abbrev cX8_requireFromZero : ByteArray := prog_1_method_51_code
def yX8_requireFromZero : MethodName := ⟨RX8, "requireFromZero", "(I)V"⟩
abbrev cX8_requireStation : ByteArray := prog_1_method_52_code
def yX8_requireStation : MethodName := ⟨RX8, "requireStation", "(I)V"⟩
abbrev cX8_requireBlock : ByteArray := prog_1_method_53_code
def yX8_requireBlock : MethodName := ⟨RX8, "requireBlock", "(I)V"⟩
abbrev cX8_requireTrain : ByteArray := prog_1_method_54_code
def yX8_requireTrain : MethodName := ⟨RX8, "requireTrain", "(I)V"⟩
abbrev cX8_stationOf : ByteArray := prog_1_method_55_code
def yX8_stationOf : MethodName := ⟨RX8, "stationOf", "(I)LIronbark$Station;"⟩
abbrev cX8_blockOf : ByteArray := prog_1_method_56_code
def yX8_blockOf : MethodName := ⟨RX8, "blockOf", "(I)LIronbark$Block;"⟩
abbrev cX8_engineOf : ByteArray := prog_1_method_57_code
def yX8_engineOf : MethodName := ⟨RX8, "engineOf", "(I)LIronbark$Engine;"⟩
abbrev cX8_crewOf : ByteArray := prog_1_method_58_code
def yX8_crewOf : MethodName := ⟨RX8, "crewOf", "(I)LIronbark$Crew;"⟩
abbrev cX8_carOf : ByteArray := prog_1_method_59_code
def yX8_carOf : MethodName := ⟨RX8, "carOf", "(I)LIronbark$Car;"⟩
abbrev cX8_billNumbered : ByteArray := prog_1_method_60_code
def yX8_billNumbered : MethodName := ⟨RX8, "billNumbered", "(I)LIronbark$Bill;"⟩
abbrev cX8_trainOf : ByteArray := prog_1_method_61_code
def yX8_trainOf : MethodName := ⟨RX8, "trainOf", "(I)LIronbark$Train;"⟩
abbrev cX8_takenTracks : ByteArray := prog_1_method_62_code
def yX8_takenTracks : MethodName := ⟨RX8, "takenTracks", "(I)I"⟩
abbrev cX8_freeTracksAt : ByteArray := prog_1_method_63_code
def yX8_freeTracksAt : MethodName := ⟨RX8, "freeTracksAt", "(I)I"⟩
abbrev cX8_leastFreeNumber : ByteArray := prog_1_method_64_code
def yX8_leastFreeNumber : MethodName := ⟨RX8, "leastFreeNumber", "()I"⟩
abbrev cX8_bringToYard : ByteArray := prog_1_method_65_code
def yX8_bringToYard : MethodName := ⟨RX8, "bringToYard", "(II)V"⟩
abbrev cX8_bringCarsToYard : ByteArray := prog_1_method_66_code
def yX8_bringCarsToYard : MethodName := ⟨RX8, "bringCarsToYard", "(LIronbark$Train;I)V"⟩
abbrev cX8_sendOff : ByteArray := prog_1_method_67_code
def yX8_sendOff : MethodName := ⟨RX8, "sendOff", "(LIronbark$Train;I)V"⟩
abbrev cX8_goalOf : ByteArray := prog_1_method_68_code
def yX8_goalOf : MethodName := ⟨RX8, "goalOf", "(I)I"⟩
abbrev cX8_appendByGoal : ByteArray := prog_1_method_69_code
def yX8_appendByGoal : MethodName := ⟨RX8, "appendByGoal", "(LIronbark$Row;I)V"⟩
abbrev cX8_endOfDraft : ByteArray := prog_1_method_70_code
def yX8_endOfDraft : MethodName := ⟨RX8, "endOfDraft", "(I)I"⟩
abbrev cX8_isOpen : ByteArray := prog_1_method_71_code
def yX8_isOpen : MethodName := ⟨RX8, "isOpen", "(LIronbark$Block;)Z"⟩
abbrev cX8_measureDistances : ByteArray := prog_1_method_72_code
def yX8_measureDistances : MethodName := ⟨RX8, "measureDistances", "(I)V"⟩
abbrev cX8_shorten : ByteArray := prog_1_method_73_code
def yX8_shorten : MethodName := ⟨RX8, "shorten", "(III)V"⟩
abbrev cX8_distanceOf : ByteArray := prog_1_method_74_code
def yX8_distanceOf : MethodName := ⟨RX8, "distanceOf", "(I)I"⟩
abbrev cX8_firstBlockOfWay : ByteArray := prog_1_method_75_code
def yX8_firstBlockOfWay : MethodName := ⟨RX8, "firstBlockOfWay", "(I)I"⟩
abbrev cX8_arriveAll : ByteArray := prog_1_method_76_code
def yX8_arriveAll : MethodName := ⟨RX8, "arriveAll", "()V"⟩
abbrev cX8_arrive : ByteArray := prog_1_method_77_code
def yX8_arrive : MethodName := ⟨RX8, "arrive", "(LIronbark$Train;)V"⟩
abbrev cX8_beginDay : ByteArray := prog_1_method_78_code
def yX8_beginDay : MethodName := ⟨RX8, "beginDay", "()V"⟩
abbrev cX8_enterAll : ByteArray := prog_1_method_79_code
def yX8_enterAll : MethodName := ⟨RX8, "enterAll", "()I"⟩
abbrev cX8_nextToEnter : ByteArray := prog_1_method_80_code
def yX8_nextToEnter : MethodName := ⟨RX8, "nextToEnter", "(I)I"⟩
abbrev cX8_enter : ByteArray := prog_1_method_81_code
def yX8_enter : MethodName := ⟨RX8, "enter", "(LIronbark$Train;LIronbark$Block;I)V"⟩
abbrev cX8_wreck : ByteArray := prog_1_method_82_code
def yX8_wreck : MethodName := ⟨RX8, "wreck", "(LIronbark$Train;I)V"⟩
abbrev cX8_barOf : ByteArray := prog_1_method_83_code
def yX8_barOf : MethodName := ⟨RX8, "barOf", "(LIronbark$Train;)I"⟩
abbrev cX8_barOfStart : ByteArray := prog_1_method_84_code
def yX8_barOfStart : MethodName := ⟨RX8, "barOfStart", "(LIronbark$Train;LIronbark$Block;)I"⟩
abbrev cX8_barOfRun : ByteArray := prog_1_method_85_code
def yX8_barOfRun : MethodName := ⟨RX8, "barOfRun", "(LIronbark$Train;LIronbark$Block;I)I"⟩
abbrev cX8_isWaiting : ByteArray := prog_1_method_86_code
def yX8_isWaiting : MethodName := ⟨RX8, "isWaiting", "(LIronbark$Train;)Z"⟩
abbrev cX8_runningMinutes : ByteArray := prog_1_method_87_code
def yX8_runningMinutes : MethodName := ⟨RX8, "runningMinutes", "(LIronbark$Train;LIronbark$Block;)I"⟩
def RX9 : String := "IronbarkModel"
def TX9 : u_T := fun k => match k with
  | 0 => ("IronbarkModel", "thrown", "I", false)
  | 1 => ("IronbarkModel", "clock", "I", false)
  | 2 => ("IronbarkModel", "cash", "I", false)
  | 3 => ("IronbarkModel", "debt", "I", false)
  | 4 => ("IronbarkModel", "broken", "I", false)
  | 5 => ("IronbarkModel", "tracks", "[I", true)
  | 6 => ("IronbarkModel", "blocks", "I", false)
  | 7 => ("IronbarkModel", "end", "[I", true)
  | 8 => ("IronbarkModel", "length", "[I", true)
  | 9 => ("IronbarkModel", "grade", "[I", true)
  | 10 => ("IronbarkModel", "wear", "[I", true)
  | 11 => ("IronbarkModel", "until", "[I", true)
  | 12 => ("IronbarkModel", "hasWrecks", "[Z", true)
  | 13 => ("IronbarkModel", "hasFailed", "[Z", true)
  | 14 => ("IronbarkModel", "isFlagged", "[Z", true)
  | 15 => ("IronbarkModel", "from", "[I", true)
  | 16 => ("IronbarkModel", "to", "[I", true)
  | 17 => ("IronbarkModel", "held", "[I", true)
  | 18 => ("IronbarkModel", "clearAt", "[I", true)
  | 19 => ("IronbarkModel", "engines", "I", false)
  | 20 => ("IronbarkModel", "power", "[I", true)
  | 21 => ("IronbarkModel", "engineAt", "[I", true)
  | 22 => ("IronbarkModel", "engineOf", "[I", true)
  | 23 => ("IronbarkModel", "crews", "I", false)
  | 24 => ("IronbarkModel", "crewAt", "[I", true)
  | 25 => ("IronbarkModel", "crewOf", "[I", true)
  | 26 => ("IronbarkModel", "duty", "[I", true)
  | 27 => ("IronbarkModel", "restsTo", "[I", true)
  | 28 => ("IronbarkModel", "knows", "[Z", true)
  | 29 => ("IronbarkModel", "cars", "I", false)
  | 30 => ("IronbarkModel", "home", "[I", true)
  | 31 => ("IronbarkModel", "carStation", "[I", true)
  | 32 => ("IronbarkModel", "carOf", "[I", true)
  | 33 => ("IronbarkModel", "bill", "[I", true)
  | 34 => ("IronbarkModel", "yard", "[I", true)
  | 35 => ("IronbarkModel", "yardSize", "[I", true)
  | 36 => ("IronbarkModel", "isThere", "[Z", true)
  | 37 => ("IronbarkModel", "engineIn", "[I", true)
  | 38 => ("IronbarkModel", "crewIn", "[I", true)
  | 39 => ("IronbarkModel", "state", "[I", true)
  | 40 => ("IronbarkModel", "station", "[I", true)
  | 41 => ("IronbarkModel", "inBlock", "[I", true)
  | 42 => ("IronbarkModel", "arrives", "[I", true)
  | 43 => ("IronbarkModel", "coupled", "[I", true)
  | 44 => ("IronbarkModel", "many", "[I", true)
  | 45 => ("IronbarkModel", "way", "[I", true)
  | 46 => ("IronbarkModel", "wayAt", "[I", true)
  | 47 => ("IronbarkModel", "wayLength", "[I", true)
  | 48 => ("IronbarkModel", "minute", "[I", true)
  | 49 => ("IronbarkModel", "rank", "[I", true)
  | 50 => ("IronbarkModel", "waitsFor", "[I", true)
  | 51 => ("IronbarkModel", "waitsAt", "[I", true)
  | 52 => ("IronbarkModel", "drafted", "I", false)
  | 53 => ("IronbarkModel", "draft", "[I", true)
  | 54 => ("IronbarkModel", "bills", "I", false)
  | 55 => ("IronbarkModel", "billFrom", "[I", true)
  | 56 => ("IronbarkModel", "billTo", "[I", true)
  | 57 => ("IronbarkModel", "billRate", "[I", true)
  | 58 => ("IronbarkModel", "isTaken", "[Z", true)
  | 59 => ("IronbarkModel", "rates", "[I", true)
  | 60 => ("IronbarkModel", "papers", "I", false)
  | 61 => ("IronbarkModel", "paperOf", "[I", true)
  | 62 => ("IronbarkModel", "paper", "[I", true)
  | 63 => ("IronbarkModel", "far", "[I", true)
  | _ => ("IronbarkModel", "row", "[I", true)
def tyX9 : Nat → FieldType := fun k => match k with
  | 0 => .int
  | 1 => .int
  | 2 => .int
  | 3 => .int
  | 4 => .int
  | 5 => .array .int
  | 6 => .int
  | 7 => .array .int
  | 8 => .array .int
  | 9 => .array .int
  | 10 => .array .int
  | 11 => .array .int
  | 12 => .array .boolean
  | 13 => .array .boolean
  | 14 => .array .boolean
  | 15 => .array .int
  | 16 => .array .int
  | 17 => .array .int
  | 18 => .array .int
  | 19 => .int
  | 20 => .array .int
  | 21 => .array .int
  | 22 => .array .int
  | 23 => .int
  | 24 => .array .int
  | 25 => .array .int
  | 26 => .array .int
  | 27 => .array .int
  | 28 => .array .boolean
  | 29 => .int
  | 30 => .array .int
  | 31 => .array .int
  | 32 => .array .int
  | 33 => .array .int
  | 34 => .array .int
  | 35 => .array .int
  | 36 => .array .boolean
  | 37 => .array .int
  | 38 => .array .int
  | 39 => .array .int
  | 40 => .array .int
  | 41 => .array .int
  | 42 => .array .int
  | 43 => .array .int
  | 44 => .array .int
  | 45 => .array .int
  | 46 => .array .int
  | 47 => .array .int
  | 48 => .array .int
  | 49 => .array .int
  | 50 => .array .int
  | 51 => .array .int
  | 52 => .int
  | 53 => .array .int
  | 54 => .int
  | 55 => .array .int
  | 56 => .array .int
  | 57 => .array .int
  | 58 => .array .boolean
  | 59 => .array .int
  | 60 => .int
  | 61 => .array .int
  | 62 => .array .int
  | 63 => .array .int
  | _ => .array .int
abbrev wsX90 : List Cond := u_ws RX9 TX9 65
theorem nmX9 : ∀ a, a < 65 → ∀ b, b < 65 → a ≠ b → (TX9 a).2.1 ≠ (TX9 b).2.1 := by decide +kernel
theorem tyX9_ok : ∀ k, k < 65 → parseFieldDescriptor (TX9 k).2.2.1 = some (tyX9 k) := by decide +kernel
abbrev cX9_init : ByteArray := prog_11_method_1_code
def yX9_init : MethodName := ⟨RX9, "<init>", "()V"⟩
abbrev cX9_thrown : ByteArray := prog_11_method_2_code
def yX9_thrown : MethodName := ⟨RX9, "thrown", "()I"⟩
abbrev cX9_fails : ByteArray := prog_11_method_3_code
def yX9_fails : MethodName := ⟨RX9, "fails", "(I)I"⟩
abbrev cX9_in : ByteArray := prog_11_method_4_code
def yX9_in : MethodName := ⟨RX9, "in", "(III)Z"⟩
abbrev cX9_isStation : ByteArray := prog_11_method_5_code
def yX9_isStation : MethodName := ⟨RX9, "isStation", "(I)Z"⟩
abbrev cX9_isBlock : ByteArray := prog_11_method_6_code
def yX9_isBlock : MethodName := ⟨RX9, "isBlock", "(I)Z"⟩
abbrev cX9_isTrain : ByteArray := prog_11_method_7_code
def yX9_isTrain : MethodName := ⟨RX9, "isTrain", "(I)Z"⟩
abbrev cX9_isCar : ByteArray := prog_11_method_8_code
def yX9_isCar : MethodName := ⟨RX9, "isCar", "(I)Z"⟩
abbrev cX9_stands : ByteArray := prog_11_method_9_code
def yX9_stands : MethodName := ⟨RX9, "stands", "(I)Z"⟩
abbrev cX9_taken : ByteArray := prog_11_method_10_code
def yX9_taken : MethodName := ⟨RX9, "taken", "(I)I"⟩
abbrev cX9_isClosed : ByteArray := prog_11_method_11_code
def yX9_isClosed : MethodName := ⟨RX9, "isClosed", "(I)Z"⟩
abbrev cX9_rests : ByteArray := prog_11_method_12_code
def yX9_rests : MethodName := ⟨RX9, "rests", "(I)Z"⟩
abbrev cX9_writes : ByteArray := prog_11_method_13_code
def yX9_writes : MethodName := ⟨RX9, "writes", "(III)V"⟩
abbrev cX9_tracks : ByteArray := prog_11_method_14_code
def yX9_tracks : MethodName := ⟨RX9, "tracks", "(II)I"⟩
abbrev cX9_lay : ByteArray := prog_11_method_15_code
def yX9_lay : MethodName := ⟨RX9, "lay", "(IIII)I"⟩
abbrev cX9_fail : ByteArray := prog_11_method_16_code
def yX9_fail : MethodName := ⟨RX9, "fail", "(IZ)Z"⟩
abbrev cX9_flag : ByteArray := prog_11_method_17_code
def yX9_flag : MethodName := ⟨RX9, "flag", "(I)V"⟩
abbrev cX9_hours : ByteArray := prog_11_method_18_code
def yX9_hours : MethodName := ⟨RX9, "hours", "(III)V"⟩
abbrev cX9_repair : ByteArray := prog_11_method_19_code
def yX9_repair : MethodName := ⟨RX9, "repair", "(I)I"⟩
abbrev cX9_engine : ByteArray := prog_11_method_20_code
def yX9_engine : MethodName := ⟨RX9, "engine", "(II)I"⟩
abbrev cX9_crew : ByteArray := prog_11_method_21_code
def yX9_crew : MethodName := ⟨RX9, "crew", "(I)I"⟩
abbrev cX9_isCrew : ByteArray := prog_11_method_22_code
def yX9_isCrew : MethodName := ⟨RX9, "isCrew", "(I)Z"⟩
abbrev cX9_learn : ByteArray := prog_11_method_23_code
def yX9_learn : MethodName := ⟨RX9, "learn", "(II)I"⟩
abbrev cX9_rest : ByteArray := prog_11_method_24_code
def yX9_rest : MethodName := ⟨RX9, "rest", "(I)I"⟩
abbrev cX9_car : ByteArray := prog_11_method_25_code
def yX9_car : MethodName := ⟨RX9, "car", "(I)I"⟩
abbrev cX9_comes : ByteArray := prog_11_method_26_code
def yX9_comes : MethodName := ⟨RX9, "comes", "(II)V"⟩
abbrev cX9_borrow : ByteArray := prog_11_method_27_code
def yX9_borrow : MethodName := ⟨RX9, "borrow", "(I)I"⟩
abbrev cX9_repay : ByteArray := prog_11_method_28_code
def yX9_repay : MethodName := ⟨RX9, "repay", "(I)I"⟩
abbrev cX9_form : ByteArray := prog_11_method_29_code
def yX9_form : MethodName := ⟨RX9, "form", "(II)I"⟩
abbrev cX9_holds : ByteArray := prog_11_method_30_code
def yX9_holds : MethodName := ⟨RX9, "holds", "(I)Z"⟩
abbrev cX9_ends : ByteArray := prog_11_method_31_code
def yX9_ends : MethodName := ⟨RX9, "ends", "(II)V"⟩
abbrev cX9_dissolve : ByteArray := prog_11_method_32_code
def yX9_dissolve : MethodName := ⟨RX9, "dissolve", "(I)I"⟩
abbrev cX9_couple : ByteArray := prog_11_method_33_code
def yX9_couple : MethodName := ⟨RX9, "couple", "(II)I"⟩
abbrev cX9_uncouple : ByteArray := prog_11_method_34_code
def yX9_uncouple : MethodName := ⟨RX9, "uncouple", "(II)I"⟩
abbrev cX9_leg : ByteArray := prog_11_method_35_code
def yX9_leg : MethodName := ⟨RX9, "leg", "(I)I"⟩
abbrev cX9_other : ByteArray := prog_11_method_36_code
def yX9_other : MethodName := ⟨RX9, "other", "(II)I"⟩
abbrev cX9_plan : ByteArray := prog_11_method_37_code
def yX9_plan : MethodName := ⟨RX9, "plan", "(III)I"⟩
abbrev cX9_await : ByteArray := prog_11_method_38_code
def yX9_await : MethodName := ⟨RX9, "await", "(III)V"⟩
abbrev cX9_weight : ByteArray := prog_11_method_39_code
def yX9_weight : MethodName := ⟨RX9, "weight", "(I)I"⟩
abbrev cX9_runs : ByteArray := prog_11_method_40_code
def yX9_runs : MethodName := ⟨RX9, "runs", "(II)I"⟩
abbrev cX9_clears : ByteArray := prog_11_method_41_code
def yX9_clears : MethodName := ⟨RX9, "clears", "(II)I"⟩
abbrev cX9_isOthers : ByteArray := prog_11_method_42_code
def yX9_isOthers : MethodName := ⟨RX9, "isOthers", "(II)Z"⟩
abbrev cX9_bars : ByteArray := prog_11_method_43_code
def yX9_bars : MethodName := ⟨RX9, "bars", "(II)Z"⟩
abbrev cX9_bar : ByteArray := prog_11_method_44_code
def yX9_bar : MethodName := ⟨RX9, "bar", "(II)I"⟩
abbrev cX9_enters : ByteArray := prog_11_method_45_code
def yX9_enters : MethodName := ⟨RX9, "enters", "(I)V"⟩
abbrev cX9_arrives : ByteArray := prog_11_method_46_code
def yX9_arrives : MethodName := ⟨RX9, "arrives", "(I)V"⟩
abbrev cX9_pays : ByteArray := prog_11_method_47_code
def yX9_pays : MethodName := ⟨RX9, "pays", "()V"⟩
abbrev cX9_ticks : ByteArray := prog_11_method_48_code
def yX9_ticks : MethodName := ⟨RX9, "ticks", "()I"⟩
abbrev cX9_run : ByteArray := prog_11_method_49_code
def yX9_run : MethodName := ⟨RX9, "run", "(I)I"⟩
abbrev cX9_wrecks : ByteArray := prog_11_method_50_code
def yX9_wrecks : MethodName := ⟨RX9, "wrecks", "(II)V"⟩
abbrev cX9_passSignal : ByteArray := prog_11_method_51_code
def yX9_passSignal : MethodName := ⟨RX9, "passSignal", "(I)Z"⟩
abbrev cX9_clear : ByteArray := prog_11_method_52_code
def yX9_clear : MethodName := ⟨RX9, "clear", "(I)I"⟩
abbrev cX9_rate : ByteArray := prog_11_method_53_code
def yX9_rate : MethodName := ⟨RX9, "rate", "(IIZI)I"⟩
abbrev cX9_offer : ByteArray := prog_11_method_54_code
def yX9_offer : MethodName := ⟨RX9, "offer", "(II)I"⟩
abbrev cX9_load : ByteArray := prog_11_method_55_code
def yX9_load : MethodName := ⟨RX9, "load", "(II)V"⟩
abbrev cX9_unload : ByteArray := prog_11_method_56_code
def yX9_unload : MethodName := ⟨RX9, "unload", "(I)I"⟩
abbrev cX9_goal : ByteArray := prog_11_method_57_code
def yX9_goal : MethodName := ⟨RX9, "goal", "(I)I"⟩
abbrev cX9_sort : ByteArray := prog_11_method_58_code
def yX9_sort : MethodName := ⟨RX9, "sort", "(I)I"⟩
abbrev cX9_clock : ByteArray := prog_11_method_59_code
def yX9_clock : MethodName := ⟨RX9, "clock", "()I"⟩
abbrev cX9_cash : ByteArray := prog_11_method_60_code
def yX9_cash : MethodName := ⟨RX9, "cash", "()I"⟩
abbrev cX9_debt : ByteArray := prog_11_method_61_code
def yX9_debt : MethodName := ⟨RX9, "debt", "()I"⟩
abbrev cX9_broken : ByteArray := prog_11_method_62_code
def yX9_broken : MethodName := ⟨RX9, "broken", "()I"⟩
abbrev cX9_freeTracks : ByteArray := prog_11_method_63_code
def yX9_freeTracks : MethodName := ⟨RX9, "freeTracks", "(I)I"⟩
abbrev cX9_holder : ByteArray := prog_11_method_64_code
def yX9_holder : MethodName := ⟨RX9, "holder", "(I)I"⟩
abbrev cX9_holderByTrains : ByteArray := prog_11_method_65_code
def yX9_holderByTrains : MethodName := ⟨RX9, "holderByTrains", "(I)I"⟩
abbrev cX9_block : ByteArray := prog_11_method_66_code
def yX9_block : MethodName := ⟨RX9, "block", "(II)I"⟩
abbrev cX9_train : ByteArray := prog_11_method_67_code
def yX9_train : MethodName := ⟨RX9, "train", "(II)I"⟩
abbrev cX9_barred : ByteArray := prog_11_method_68_code
def yX9_barred : MethodName := ⟨RX9, "barred", "(I)I"⟩
abbrev cX9_duty : ByteArray := prog_11_method_69_code
def yX9_duty : MethodName := ⟨RX9, "duty", "(I)I"⟩
abbrev cX9_carAt : ByteArray := prog_11_method_70_code
def yX9_carAt : MethodName := ⟨RX9, "carAt", "(I)I"⟩
abbrev cX9_carByPapers : ByteArray := prog_11_method_71_code
def yX9_carByPapers : MethodName := ⟨RX9, "carByPapers", "(I)I"⟩
abbrev cX9_billOf : ByteArray := prog_11_method_72_code
def yX9_billOf : MethodName := ⟨RX9, "billOf", "(I)I"⟩
abbrev cX9_paper : ByteArray := prog_11_method_73_code
def yX9_paper : MethodName := ⟨RX9, "paper", "(II)I"⟩
abbrev cX9_yardAt : ByteArray := prog_11_method_74_code
def yX9_yardAt : MethodName := ⟨RX9, "yardAt", "(II)I"⟩
abbrev cX9_homeward : ByteArray := prog_11_method_75_code
def yX9_homeward : MethodName := ⟨RX9, "homeward", "(I)I"⟩
def RJx145de : String := "java/io/Serializable"
def TJx145de : u_T := fun k => match k with
  | _ => ("", "", "", false)
def tyJx145de : Nat → FieldType := fun k => match k with
  | _ => .int
abbrev wsJx145de0 : List Cond := u_ws RJx145de TJx145de 0
theorem nmJx145de : ∀ a, a < 0 → ∀ b, b < 0 → a ≠ b → (TJx145de a).2.1 ≠ (TJx145de b).2.1 := by decide +kernel
theorem tyJx145de_ok : ∀ k, k < 0 → parseFieldDescriptor (TJx145de k).2.2.1 = some (tyJx145de k) := by decide +kernel
def RJx8e188 : String := "java/lang/Cloneable"
def TJx8e188 : u_T := fun k => match k with
  | _ => ("", "", "", false)
def tyJx8e188 : Nat → FieldType := fun k => match k with
  | _ => .int
abbrev wsJx8e1880 : List Cond := u_ws RJx8e188 TJx8e188 0
theorem nmJx8e188 : ∀ a, a < 0 → ∀ b, b < 0 → a ≠ b → (TJx8e188 a).2.1 ≠ (TJx8e188 b).2.1 := by decide +kernel
theorem tyJx8e188_ok : ∀ k, k < 0 → parseFieldDescriptor (TJx8e188 k).2.2.1 = some (tyJx8e188 k) := by decide +kernel
def RJ6 : String := "java/lang/Integer"
def TJ6 : u_T := fun k => match k with
  | _ => ("", "", "", false)
def tyJ6 : Nat → FieldType := fun k => match k with
  | _ => .int
abbrev wsJ60 : List Cond := u_ws RJ6 TJ6 0
theorem nmJ6 : ∀ a, a < 0 → ∀ b, b < 0 → a ≠ b → (TJ6 a).2.1 ≠ (TJ6 b).2.1 := by decide +kernel
theorem tyJ6_ok : ∀ k, k < 0 → parseFieldDescriptor (TJ6 k).2.2.1 = some (tyJ6 k) := by decide +kernel
abbrev cJ6_bitCount_0f7a4 : ByteArray := prog_18_method_49_code
def yJ6_bitCount_0f7a4 : MethodName := ⟨RJ6, "bitCount", "(I)I"⟩
def RJxab1ab : String := "java/lang/Iterable"
def TJxab1ab : u_T := fun k => match k with
  | _ => ("", "", "", false)
def tyJxab1ab : Nat → FieldType := fun k => match k with
  | _ => .int
abbrev wsJxab1ab0 : List Cond := u_ws RJxab1ab TJxab1ab 0
theorem nmJxab1ab : ∀ a, a < 0 → ∀ b, b < 0 → a ≠ b → (TJxab1ab a).2.1 ≠ (TJxab1ab b).2.1 := by decide +kernel
theorem tyJxab1ab_ok : ∀ k, k < 0 → parseFieldDescriptor (TJxab1ab k).2.2.1 = some (tyJxab1ab k) := by decide +kernel
def RJ9 : String := "java/lang/Math"
def TJ9 : u_T := fun k => match k with
  | _ => ("", "", "", false)
def tyJ9 : Nat → FieldType := fun k => match k with
  | _ => .int
abbrev wsJ90 : List Cond := u_ws RJ9 TJ9 0
theorem nmJ9 : ∀ a, a < 0 → ∀ b, b < 0 → a ≠ b → (TJ9 a).2.1 ≠ (TJ9 b).2.1 := by decide +kernel
theorem tyJ9_ok : ∀ k, k < 0 → parseFieldDescriptor (TJ9 k).2.2.1 = some (tyJ9 k) := by decide +kernel
abbrev cJ9_max_7cf53 : ByteArray := prog_20_method_65_code
def yJ9_max_7cf53 : MethodName := ⟨RJ9, "max", "(II)I"⟩
abbrev cJ9_min_7cf53 : ByteArray := prog_20_method_69_code
def yJ9_min_7cf53 : MethodName := ⟨RJ9, "min", "(II)I"⟩
def RJ0 : String := "java/lang/String"
def TJ0 : u_T := fun k => match k with
  | _ => ("", "", "", false)
def tyJ0 : Nat → FieldType := fun k => match k with
  | _ => .int
abbrev wsJ00 : List Cond := u_ws RJ0 TJ0 0
theorem nmJ0 : ∀ a, a < 0 → ∀ b, b < 0 → a ≠ b → (TJ0 a).2.1 ≠ (TJ0 b).2.1 := by decide +kernel
theorem tyJ0_ok : ∀ k, k < 0 → parseFieldDescriptor (TJ0 k).2.2.1 = some (tyJ0 k) := by decide +kernel
def RJ10 : String := "java/lang/System"
def TJ10 : u_T := fun k => match k with
  | _ => ("", "", "", false)
def tyJ10 : Nat → FieldType := fun k => match k with
  | _ => .int
abbrev wsJ100 : List Cond := u_ws RJ10 TJ10 0
theorem nmJ10 : ∀ a, a < 0 → ∀ b, b < 0 → a ≠ b → (TJ10 a).2.1 ≠ (TJ10 b).2.1 := by decide +kernel
theorem tyJ10_ok : ∀ k, k < 0 → parseFieldDescriptor (TJ10 k).2.2.1 = some (tyJ10 k) := by decide +kernel
def RJxa1e45 : String := "java/util/AbstractCollection"
def TJxa1e45 : u_T := fun k => match k with
  | _ => ("", "", "", false)
def tyJxa1e45 : Nat → FieldType := fun k => match k with
  | _ => .int
abbrev wsJxa1e450 : List Cond := u_ws RJxa1e45 TJxa1e45 0
theorem nmJxa1e45 : ∀ a, a < 0 → ∀ b, b < 0 → a ≠ b → (TJxa1e45 a).2.1 ≠ (TJxa1e45 b).2.1 := by decide +kernel
theorem tyJxa1e45_ok : ∀ k, k < 0 → parseFieldDescriptor (TJxa1e45 k).2.2.1 = some (tyJxa1e45 k) := by decide +kernel
abbrev cJxa1e45_init_da8c8 : ByteArray := prog_25_method_1_code
def yJxa1e45_init_da8c8 : MethodName := ⟨RJxa1e45, "<init>", "()V"⟩
def RJxc12de : String := "java/util/AbstractList"
def TJxc12de : u_T := fun k => match k with
  | _ => ("", "", "", false)
def tyJxc12de : Nat → FieldType := fun k => match k with
  | _ => .int
abbrev wsJxc12de0 : List Cond := u_ws RJxc12de TJxc12de 0
theorem nmJxc12de : ∀ a, a < 0 → ∀ b, b < 0 → a ≠ b → (TJxc12de a).2.1 ≠ (TJxc12de b).2.1 := by decide +kernel
theorem tyJxc12de_ok : ∀ k, k < 0 → parseFieldDescriptor (TJxc12de k).2.2.1 = some (tyJxc12de k) := by decide +kernel
abbrev cJxc12de_init_da8c8 : ByteArray := prog_26_method_1_code
def yJxc12de_init_da8c8 : MethodName := ⟨RJxc12de, "<init>", "()V"⟩
def RJx4a65c : String := "java/util/ArrayList"
def TJx4a65c : u_T := fun k => match k with
  | 0 => ("java/util/AbstractList", "modCount", "I", false)
  | 1 => ("java/util/ArrayList", "elementData", "[Ljava/lang/Object;", false)
  | _ => ("java/util/ArrayList", "size", "I", false)
def tyJx4a65c : Nat → FieldType := fun k => match k with
  | 0 => .int
  | 1 => .array (.object "java/lang/Object")
  | _ => .int
abbrev wsJx4a65c0 : List Cond := u_ws RJx4a65c TJx4a65c 3
theorem nmJx4a65c : ∀ a, a < 3 → ∀ b, b < 3 → a ≠ b → (TJx4a65c a).2.1 ≠ (TJx4a65c b).2.1 := by decide +kernel
theorem tyJx4a65c_ok : ∀ k, k < 3 → parseFieldDescriptor (TJx4a65c k).2.2.1 = some (tyJx4a65c k) := by decide +kernel
abbrev cJx4a65c_init_da8c8 : ByteArray := prog_27_method_2_code
def yJx4a65c_init_da8c8 : MethodName := ⟨RJx4a65c, "<init>", "()V"⟩
abbrev cJx4a65c_grow_92f84 : ByteArray := prog_27_method_6_code
def yJx4a65c_grow_92f84 : MethodName := ⟨RJx4a65c, "grow", "(I)[Ljava/lang/Object;"⟩
abbrev cJx4a65c_grow_d5877 : ByteArray := prog_27_method_7_code
def yJx4a65c_grow_d5877 : MethodName := ⟨RJx4a65c, "grow", "()[Ljava/lang/Object;"⟩
abbrev cJx4a65c_size_8abf5 : ByteArray := prog_27_method_8_code
def yJx4a65c_size_8abf5 : MethodName := ⟨RJx4a65c, "size", "()I"⟩
abbrev cJx4a65c_elementData_915e3 : ByteArray := prog_27_method_18_code
def yJx4a65c_elementData_915e3 : MethodName := ⟨RJx4a65c, "elementData", "(I)Ljava/lang/Object;"⟩
abbrev cJx4a65c_get_915e3 : ByteArray := prog_27_method_20_code
def yJx4a65c_get_915e3 : MethodName := ⟨RJx4a65c, "get", "(I)Ljava/lang/Object;"⟩
abbrev cJx4a65c_add_72be8 : ByteArray := prog_27_method_24_code
def yJx4a65c_add_72be8 : MethodName := ⟨RJx4a65c, "add", "(Ljava/lang/Object;[Ljava/lang/Object;I)V"⟩
abbrev cJx4a65c_add_9ea2d : ByteArray := prog_27_method_25_code
def yJx4a65c_add_9ea2d : MethodName := ⟨RJx4a65c, "add", "(Ljava/lang/Object;)Z"⟩
def RJ7 : String := "java/util/Arrays"
def TJ7 : u_T := fun k => match k with
  | _ => ("", "", "", false)
def tyJ7 : Nat → FieldType := fun k => match k with
  | _ => .int
abbrev wsJ70 : List Cond := u_ws RJ7 TJ7 0
theorem nmJ7 : ∀ a, a < 0 → ∀ b, b < 0 → a ≠ b → (TJ7 a).2.1 ≠ (TJ7 b).2.1 := by decide +kernel
theorem tyJ7_ok : ∀ k, k < 0 → parseFieldDescriptor (TJ7 k).2.2.1 = some (tyJ7 k) := by decide +kernel
abbrev cJ7_fill_53178 : ByteArray := prog_28_method_103_code
def yJ7_fill_53178 : MethodName := ⟨RJ7, "fill", "([II)V"⟩
abbrev cJ7_copyOf_1904c : ByteArray := prog_28_method_119_code
def yJ7_copyOf_1904c : MethodName := ⟨RJ7, "copyOf", "([Ljava/lang/Object;I)[Ljava/lang/Object;"⟩
abbrev cJ7_copyOf_6403c : ByteArray := prog_28_method_120_code
def yJ7_copyOf_6403c : MethodName := ⟨RJ7, "copyOf", "([Ljava/lang/Object;ILjava/lang/Class;)[Ljava/lang/Object;"⟩
abbrev cJ7_copyOf_59c91 : ByteArray := prog_28_method_123_code
def yJ7_copyOf_59c91 : MethodName := ⟨RJ7, "copyOf", "([II)[I"⟩
def RJx5ef63 : String := "java/util/Collection"
def TJx5ef63 : u_T := fun k => match k with
  | _ => ("", "", "", false)
def tyJx5ef63 : Nat → FieldType := fun k => match k with
  | _ => .int
abbrev wsJx5ef630 : List Cond := u_ws RJx5ef63 TJx5ef63 0
theorem nmJx5ef63 : ∀ a, a < 0 → ∀ b, b < 0 → a ≠ b → (TJx5ef63 a).2.1 ≠ (TJx5ef63 b).2.1 := by decide +kernel
theorem tyJx5ef63_ok : ∀ k, k < 0 → parseFieldDescriptor (TJx5ef63 k).2.2.1 = some (tyJx5ef63 k) := by decide +kernel
def RJxbd725 : String := "java/util/List"
def TJxbd725 : u_T := fun k => match k with
  | _ => ("", "", "", false)
def tyJxbd725 : Nat → FieldType := fun k => match k with
  | _ => .int
abbrev wsJxbd7250 : List Cond := u_ws RJxbd725 TJxbd725 0
theorem nmJxbd725 : ∀ a, a < 0 → ∀ b, b < 0 → a ≠ b → (TJxbd725 a).2.1 ≠ (TJxbd725 b).2.1 := by decide +kernel
theorem tyJxbd725_ok : ∀ k, k < 0 → parseFieldDescriptor (TJxbd725 k).2.2.1 = some (tyJxbd725 k) := by decide +kernel
def RJ15 : String := "java/util/Objects"
def TJ15 : u_T := fun k => match k with
  | _ => ("", "", "", false)
def tyJ15 : Nat → FieldType := fun k => match k with
  | _ => .int
abbrev wsJ150 : List Cond := u_ws RJ15 TJ15 0
theorem nmJ15 : ∀ a, a < 0 → ∀ b, b < 0 → a ≠ b → (TJ15 a).2.1 ≠ (TJ15 b).2.1 := by decide +kernel
theorem tyJ15_ok : ∀ k, k < 0 → parseFieldDescriptor (TJ15 k).2.2.1 = some (tyJ15 k) := by decide +kernel
abbrev cJ15_checkIndex_7cf53 : ByteArray := prog_31_method_17_code
def yJ15_checkIndex_7cf53 : MethodName := ⟨RJ15, "checkIndex", "(II)I"⟩
def RJxf0a74 : String := "java/util/RandomAccess"
def TJxf0a74 : u_T := fun k => match k with
  | _ => ("", "", "", false)
def tyJxf0a74 : Nat → FieldType := fun k => match k with
  | _ => .int
abbrev wsJxf0a740 : List Cond := u_ws RJxf0a74 TJxf0a74 0
theorem nmJxf0a74 : ∀ a, a < 0 → ∀ b, b < 0 → a ≠ b → (TJxf0a74 a).2.1 ≠ (TJxf0a74 b).2.1 := by decide +kernel
theorem tyJxf0a74_ok : ∀ k, k < 0 → parseFieldDescriptor (TJxf0a74 k).2.2.1 = some (tyJxf0a74 k) := by decide +kernel
def RJxa66e6 : String := "java/util/SequencedCollection"
def TJxa66e6 : u_T := fun k => match k with
  | _ => ("", "", "", false)
def tyJxa66e6 : Nat → FieldType := fun k => match k with
  | _ => .int
abbrev wsJxa66e60 : List Cond := u_ws RJxa66e6 TJxa66e6 0
theorem nmJxa66e6 : ∀ a, a < 0 → ∀ b, b < 0 → a ≠ b → (TJxa66e6 a).2.1 ≠ (TJxa66e6 b).2.1 := by decide +kernel
theorem tyJxa66e6_ok : ∀ k, k < 0 → parseFieldDescriptor (TJxa66e6 k).2.2.1 = some (tyJxa66e6 k) := by decide +kernel
def RJ8 : String := "jdk/internal/util/ArraysSupport"
def TJ8 : u_T := fun k => match k with
  | _ => ("", "", "", false)
def tyJ8 : Nat → FieldType := fun k => match k with
  | _ => .int
abbrev wsJ80 : List Cond := u_ws RJ8 TJ8 0
theorem nmJ8 : ∀ a, a < 0 → ∀ b, b < 0 → a ≠ b → (TJ8 a).2.1 ≠ (TJ8 b).2.1 := by decide +kernel
theorem tyJ8_ok : ∀ k, k < 0 → parseFieldDescriptor (TJ8 k).2.2.1 = some (tyJ8 k) := by decide +kernel
abbrev cJ8_newLength_cabcc : ByteArray := prog_34_method_27_code
def yJ8_newLength_cabcc : MethodName := ⟨RJ8, "newLength", "(III)I"⟩
abbrev cJ8_hugeLength_7cf53 : ByteArray := prog_34_method_28_code
def yJ8_hugeLength_7cf53 : MethodName := ⟨RJ8, "hugeLength", "(II)I"⟩
def RJ3 : String := "jdk/internal/util/Preconditions"
def TJ3 : u_T := fun k => match k with
  | _ => ("", "", "", false)
def tyJ3 : Nat → FieldType := fun k => match k with
  | _ => .int
abbrev wsJ30 : List Cond := u_ws RJ3 TJ3 0
theorem nmJ3 : ∀ a, a < 0 → ∀ b, b < 0 → a ≠ b → (TJ3 a).2.1 ≠ (TJ3 b).2.1 := by decide +kernel
theorem tyJ3_ok : ∀ k, k < 0 → parseFieldDescriptor (TJ3 k).2.2.1 = some (tyJ3 k) := by decide +kernel
abbrev cJ3_checkIndex_8e157 : ByteArray := prog_35_method_11_code
def yJ3_checkIndex_8e157 : MethodName := ⟨RJ3, "checkIndex", "(IILjava/util/function/BiFunction;)I"⟩
def RL : String := "IronbarkLaw"
abbrev cL_tracks : ByteArray := method_3_code
def yL_tracks : MethodName := ⟨RL, "tracks", "(LIronbark;II[J)I"⟩
abbrev cL_lay : ByteArray := method_4_code
def yL_lay : MethodName := ⟨RL, "lay", "(LIronbark;IIII[J)I"⟩
abbrev cL_fail : ByteArray := method_5_code
def yL_fail : MethodName := ⟨RL, "fail", "(LIronbark;IZ[J)I"⟩
abbrev cL_flag : ByteArray := method_6_code
def yL_flag : MethodName := ⟨RL, "flag", "(LIronbark;I)I"⟩
abbrev cL_hours : ByteArray := method_7_code
def yL_hours : MethodName := ⟨RL, "hours", "(LIronbark;III)I"⟩
abbrev cL_repair : ByteArray := method_8_code
def yL_repair : MethodName := ⟨RL, "repair", "(LIronbark;I[J)I"⟩
abbrev cL_engine : ByteArray := method_9_code
def yL_engine : MethodName := ⟨RL, "engine", "(LIronbark;II[J)I"⟩
abbrev cL_crew : ByteArray := method_10_code
def yL_crew : MethodName := ⟨RL, "crew", "(LIronbark;I[J)I"⟩
abbrev cL_learn : ByteArray := method_11_code
def yL_learn : MethodName := ⟨RL, "learn", "(LIronbark;II[J)I"⟩
abbrev cL_rest : ByteArray := method_12_code
def yL_rest : MethodName := ⟨RL, "rest", "(LIronbark;I[J)I"⟩
abbrev cL_car : ByteArray := method_13_code
def yL_car : MethodName := ⟨RL, "car", "(LIronbark;I[J)I"⟩
abbrev cL_borrow : ByteArray := method_14_code
def yL_borrow : MethodName := ⟨RL, "borrow", "(LIronbark;I[J)I"⟩
abbrev cL_repay : ByteArray := method_15_code
def yL_repay : MethodName := ⟨RL, "repay", "(LIronbark;I[J)I"⟩
abbrev cL_form : ByteArray := method_16_code
def yL_form : MethodName := ⟨RL, "form", "(LIronbark;II[J)I"⟩
abbrev cL_dissolve : ByteArray := method_17_code
def yL_dissolve : MethodName := ⟨RL, "dissolve", "(LIronbark;I[J)I"⟩
abbrev cL_couple : ByteArray := method_18_code
def yL_couple : MethodName := ⟨RL, "couple", "(LIronbark;II[J)I"⟩
abbrev cL_uncouple : ByteArray := method_19_code
def yL_uncouple : MethodName := ⟨RL, "uncouple", "(LIronbark;II[J)I"⟩
abbrev cL_leg : ByteArray := method_20_code
def yL_leg : MethodName := ⟨RL, "leg", "(LIronbark;I[J)I"⟩
abbrev cL_plan : ByteArray := method_21_code
def yL_plan : MethodName := ⟨RL, "plan", "(LIronbark;III[J)I"⟩
abbrev cL_await : ByteArray := method_22_code
def yL_await : MethodName := ⟨RL, "await", "(LIronbark;III)I"⟩
abbrev cL_run : ByteArray := method_23_code
def yL_run : MethodName := ⟨RL, "run", "(LIronbark;I[J)I"⟩
abbrev cL_passSignal : ByteArray := method_24_code
def yL_passSignal : MethodName := ⟨RL, "passSignal", "(LIronbark;I[J)I"⟩
abbrev cL_clear : ByteArray := method_25_code
def yL_clear : MethodName := ⟨RL, "clear", "(LIronbark;I[J)I"⟩
abbrev cL_rate : ByteArray := method_26_code
def yL_rate : MethodName := ⟨RL, "rate", "(LIronbark;IIZI[J)I"⟩
abbrev cL_offer : ByteArray := method_27_code
def yL_offer : MethodName := ⟨RL, "offer", "(LIronbark;II[J)I"⟩
abbrev cL_load : ByteArray := method_28_code
def yL_load : MethodName := ⟨RL, "load", "(LIronbark;II)I"⟩
abbrev cL_unload : ByteArray := method_29_code
def yL_unload : MethodName := ⟨RL, "unload", "(LIronbark;I[J)I"⟩
abbrev cL_sort : ByteArray := method_30_code
def yL_sort : MethodName := ⟨RL, "sort", "(LIronbark;I[J)I"⟩
abbrev cL_freeTracks : ByteArray := method_31_code
def yL_freeTracks : MethodName := ⟨RL, "freeTracks", "(LIronbark;I[J)I"⟩
abbrev cL_holder : ByteArray := method_32_code
def yL_holder : MethodName := ⟨RL, "holder", "(LIronbark;I[J)I"⟩
abbrev cL_holderByTrains : ByteArray := method_33_code
def yL_holderByTrains : MethodName := ⟨RL, "holderByTrains", "(LIronbark;I[J)I"⟩
abbrev cL_block : ByteArray := method_34_code
def yL_block : MethodName := ⟨RL, "block", "(LIronbark;II[J)I"⟩
abbrev cL_train : ByteArray := method_35_code
def yL_train : MethodName := ⟨RL, "train", "(LIronbark;II[J)I"⟩
abbrev cL_barred : ByteArray := method_36_code
def yL_barred : MethodName := ⟨RL, "barred", "(LIronbark;I[J)I"⟩
abbrev cL_duty : ByteArray := method_37_code
def yL_duty : MethodName := ⟨RL, "duty", "(LIronbark;I[J)I"⟩
abbrev cL_carAt : ByteArray := method_38_code
def yL_carAt : MethodName := ⟨RL, "carAt", "(LIronbark;I[J)I"⟩
abbrev cL_carByPapers : ByteArray := method_39_code
def yL_carByPapers : MethodName := ⟨RL, "carByPapers", "(LIronbark;I[J)I"⟩
abbrev cL_billOf : ByteArray := method_40_code
def yL_billOf : MethodName := ⟨RL, "billOf", "(LIronbark;I[J)I"⟩
abbrev cL_paper : ByteArray := method_41_code
def yL_paper : MethodName := ⟨RL, "paper", "(LIronbark;II[J)I"⟩
abbrev cL_yardAt : ByteArray := method_42_code
def yL_yardAt : MethodName := ⟨RL, "yardAt", "(LIronbark;II[J)I"⟩
abbrev cL_homeward : ByteArray := method_43_code
def yL_homeward : MethodName := ⟨RL, "homeward", "(LIronbark;I[J)I"⟩
abbrev cL_law : ByteArray := code
abbrev vwCl : List vw_C := [(RJx4a65c, TJx4a65c, 3), (RX0, TX0, 4), (RX1, TX1, 13), (RX2, TX2, 5), (RX3, TX3, 5), (RX4, TX4, 3), (RX5, TX5, 2), (RX6, TX6, 2), (RX7, TX7, 17), (RX8, TX8, 16), (RX9, TX9, 65)]
