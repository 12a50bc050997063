-- ===== PART A: goes FIRST, ahead of the names: the tables' words, and 'selects' of the private methods out of them =====
def lw_okq (q : MethodName × Nat) : Prop := (q.1.cls ≠ "java/lang/invoke/MethodHandle" ∧ q.1.cls ≠ "java/lang/invoke/VarHandle") ∧ Cond.instantiable q.1.cls q.2 ∈ tables_1 ∧ Cond.privateMethod q.1 ∈ tables_1 ∧ Cond.instanceMethod q.1 ∈ tables_1
theorem lw_p0 : lw_okq (⟨"PlayoutBuffer$Receiver", "startOnce", "()V"⟩, 9) := ⟨⟨by decide +kernel, by decide +kernel⟩, List.mem_of_getElem? (i := 23) (by decide +kernel), List.mem_of_getElem? (i := 369) (by decide +kernel), List.mem_of_getElem? (i := 370) (by decide +kernel)⟩
theorem lw_p1 : lw_okq (⟨"PlayoutBuffer$Transits", "insert", "(II)V"⟩, 4) := ⟨⟨by decide +kernel, by decide +kernel⟩, List.mem_of_getElem? (i := 98) (by decide +kernel), List.mem_of_getElem? (i := 380) (by decide +kernel), List.mem_of_getElem? (i := 381) (by decide +kernel)⟩
theorem lw_p2 : lw_okq (⟨"PlayoutBuffer$Frames", "knownIn", "(LPlayoutBuffer$Settings;I)J"⟩, 3) := ⟨⟨by decide +kernel, by decide +kernel⟩, List.mem_of_getElem? (i := 80) (by decide +kernel), List.mem_of_getElem? (i := 393) (by decide +kernel), List.mem_of_getElem? (i := 394) (by decide +kernel)⟩
theorem lw_p3 : lw_okq (⟨"PlayoutBuffer$Receiver", "acceptDue", "()V"⟩, 9) := ⟨⟨by decide +kernel, by decide +kernel⟩, List.mem_of_getElem? (i := 23) (by decide +kernel), List.mem_of_getElem? (i := 449) (by decide +kernel), List.mem_of_getElem? (i := 450) (by decide +kernel)⟩
theorem lw_p4 : lw_okq (⟨"PlayoutBuffer$Receiver", "takeFrame", "(I)V"⟩, 9) := ⟨⟨by decide +kernel, by decide +kernel⟩, List.mem_of_getElem? (i := 23) (by decide +kernel), List.mem_of_getElem? (i := 467) (by decide +kernel), List.mem_of_getElem? (i := 468) (by decide +kernel)⟩
theorem lw_p5 : lw_okq (⟨"PlayoutBuffer$Player", "bestLag", "(IZ)I"⟩, 8) := ⟨⟨by decide +kernel, by decide +kernel⟩, List.mem_of_getElem? (i := 118) (by decide +kernel), List.mem_of_getElem? (i := 491) (by decide +kernel), List.mem_of_getElem? (i := 492) (by decide +kernel)⟩
theorem lw_p6 : lw_okq (⟨"PlayoutBuffer$Player", "differences", "(I)I"⟩, 8) := ⟨⟨by decide +kernel, by decide +kernel⟩, List.mem_of_getElem? (i := 118) (by decide +kernel), List.mem_of_getElem? (i := 495) (by decide +kernel), List.mem_of_getElem? (i := 496) (by decide +kernel)⟩
theorem lw_p7 : lw_okq (⟨"PlayoutBuffer$Player", "put", "(I)V"⟩, 8) := ⟨⟨by decide +kernel, by decide +kernel⟩, List.mem_of_getElem? (i := 118) (by decide +kernel), List.mem_of_getElem? (i := 505) (by decide +kernel), List.mem_of_getElem? (i := 506) (by decide +kernel)⟩
theorem lw_p8 : lw_okq (⟨"PlayoutBuffer$Receiver", "putKnown", "(I)V"⟩, 9) := ⟨⟨by decide +kernel, by decide +kernel⟩, List.mem_of_getElem? (i := 23) (by decide +kernel), List.mem_of_getElem? (i := 513) (by decide +kernel), List.mem_of_getElem? (i := 514) (by decide +kernel)⟩
theorem lw_p9 : lw_okq (⟨"PlayoutBuffer$Player", "putSource", "(II)V"⟩, 8) := ⟨⟨by decide +kernel, by decide +kernel⟩, List.mem_of_getElem? (i := 118) (by decide +kernel), List.mem_of_getElem? (i := 546) (by decide +kernel), List.mem_of_getElem? (i := 547) (by decide +kernel)⟩
theorem lw_p10 : lw_okq (⟨"PlayoutBuffer$ArrivalText", "follows", "(ILPlayoutBuffer$Arrivals;)Z"⟩, 8) := ⟨⟨by decide +kernel, by decide +kernel⟩, List.mem_of_getElem? (i := 268) (by decide +kernel), List.mem_of_getElem? (i := 758) (by decide +kernel), List.mem_of_getElem? (i := 759) (by decide +kernel)⟩
theorem lw_p11 : lw_okq (⟨"PlayoutBuffer$ArrivalText", "beginsEntry", "(I)Z"⟩, 8) := ⟨⟨by decide +kernel, by decide +kernel⟩, List.mem_of_getElem? (i := 268) (by decide +kernel), List.mem_of_getElem? (i := 762) (by decide +kernel), List.mem_of_getElem? (i := 763) (by decide +kernel)⟩
theorem lw_p12 : lw_okq (⟨"PlayoutBuffer$ArrivalText", "expect", "(I)V"⟩, 8) := ⟨⟨by decide +kernel, by decide +kernel⟩, List.mem_of_getElem? (i := 268) (by decide +kernel), List.mem_of_getElem? (i := 766) (by decide +kernel), List.mem_of_getElem? (i := 767) (by decide +kernel)⟩
theorem lw_p13 : lw_okq (⟨"PlayoutBuffer$ArrivalText", "endOfNumber", "()I"⟩, 8) := ⟨⟨by decide +kernel, by decide +kernel⟩, List.mem_of_getElem? (i := 268) (by decide +kernel), List.mem_of_getElem? (i := 770) (by decide +kernel), List.mem_of_getElem? (i := 771) (by decide +kernel)⟩
theorem lw_p14 : lw_okq (⟨"PlayoutBuffer$ArrivalText", "endNumber", "(LPlayoutBuffer$Arrivals;)V"⟩, 8) := ⟨⟨by decide +kernel, by decide +kernel⟩, List.mem_of_getElem? (i := 268) (by decide +kernel), List.mem_of_getElem? (i := 774) (by decide +kernel), List.mem_of_getElem? (i := 775) (by decide +kernel)⟩
theorem lw_p15 : lw_okq (⟨"PlayoutBuffer", "canArrive", "(I)Z"⟩, 5) := ⟨⟨by decide +kernel, by decide +kernel⟩, List.mem_of_getElem? (i := 15) (by decide +kernel), List.mem_of_getElem? (i := 783) (by decide +kernel), List.mem_of_getElem? (i := 784) (by decide +kernel)⟩
def lw_privs_1 : List (MethodName × Nat) := [(⟨"PlayoutBuffer$Receiver", "startOnce", "()V"⟩, 9), (⟨"PlayoutBuffer$Transits", "insert", "(II)V"⟩, 4), (⟨"PlayoutBuffer$Frames", "knownIn", "(LPlayoutBuffer$Settings;I)J"⟩, 3), (⟨"PlayoutBuffer$Receiver", "acceptDue", "()V"⟩, 9), (⟨"PlayoutBuffer$Receiver", "takeFrame", "(I)V"⟩, 9), (⟨"PlayoutBuffer$Player", "bestLag", "(IZ)I"⟩, 8), (⟨"PlayoutBuffer$Player", "differences", "(I)I"⟩, 8), (⟨"PlayoutBuffer$Player", "put", "(I)V"⟩, 8), (⟨"PlayoutBuffer$Receiver", "putKnown", "(I)V"⟩, 9), (⟨"PlayoutBuffer$Player", "putSource", "(II)V"⟩, 8), (⟨"PlayoutBuffer$ArrivalText", "follows", "(ILPlayoutBuffer$Arrivals;)Z"⟩, 8), (⟨"PlayoutBuffer$ArrivalText", "beginsEntry", "(I)Z"⟩, 8), (⟨"PlayoutBuffer$ArrivalText", "expect", "(I)V"⟩, 8), (⟨"PlayoutBuffer$ArrivalText", "endOfNumber", "()I"⟩, 8), (⟨"PlayoutBuffer$ArrivalText", "endNumber", "(LPlayoutBuffer$Arrivals;)V"⟩, 8), (⟨"PlayoutBuffer", "canArrive", "(I)Z"⟩, 5)]
theorem lw_r1 : ∀ q ∈ lw_privs_1, lw_okq q := List.forall_mem_cons.mpr ⟨lw_p0, List.forall_mem_cons.mpr ⟨lw_p1, List.forall_mem_cons.mpr ⟨lw_p2, List.forall_mem_cons.mpr ⟨lw_p3, List.forall_mem_cons.mpr ⟨lw_p4, List.forall_mem_cons.mpr ⟨lw_p5, List.forall_mem_cons.mpr ⟨lw_p6, List.forall_mem_cons.mpr ⟨lw_p7, List.forall_mem_cons.mpr ⟨lw_p8, List.forall_mem_cons.mpr ⟨lw_p9, List.forall_mem_cons.mpr ⟨lw_p10, List.forall_mem_cons.mpr ⟨lw_p11, List.forall_mem_cons.mpr ⟨lw_p12, List.forall_mem_cons.mpr ⟨lw_p13, List.forall_mem_cons.mpr ⟨lw_p14, List.forall_mem_cons.mpr ⟨lw_p15, fun _ h => absurd h List.not_mem_nil⟩⟩⟩⟩⟩⟩⟩⟩⟩⟩⟩⟩⟩⟩⟩⟩
theorem lw_p16 : lw_okq (⟨"PlayoutBufferModel", "isBegun", "()Z"⟩, 11) := ⟨⟨by decide +kernel, by decide +kernel⟩, List.mem_of_getElem? (i := 824) (by decide +kernel), List.mem_of_getElem? (i := 872) (by decide +kernel), List.mem_of_getElem? (i := 873) (by decide +kernel)⟩
theorem lw_p17 : lw_okq (⟨"PlayoutBufferModel", "put", "(II)I"⟩, 11) := ⟨⟨by decide +kernel, by decide +kernel⟩, List.mem_of_getElem? (i := 824) (by decide +kernel), List.mem_of_getElem? (i := 876) (by decide +kernel), List.mem_of_getElem? (i := 877) (by decide +kernel)⟩
theorem lw_p18 : lw_okq (⟨"PlayoutBufferModel", "arrives", "(I)I"⟩, 11) := ⟨⟨by decide +kernel, by decide +kernel⟩, List.mem_of_getElem? (i := 824) (by decide +kernel), List.mem_of_getElem? (i := 911) (by decide +kernel), List.mem_of_getElem? (i := 912) (by decide +kernel)⟩
theorem lw_p19 : lw_okq (⟨"PlayoutBufferModel", "isKnown", "(I)Z"⟩, 11) := ⟨⟨by decide +kernel, by decide +kernel⟩, List.mem_of_getElem? (i := 824) (by decide +kernel), List.mem_of_getElem? (i := 915) (by decide +kernel), List.mem_of_getElem? (i := 916) (by decide +kernel)⟩
theorem lw_p20 : lw_okq (⟨"PlayoutBufferModel", "begins", "()V"⟩, 11) := ⟨⟨by decide +kernel, by decide +kernel⟩, List.mem_of_getElem? (i := 824) (by decide +kernel), List.mem_of_getElem? (i := 919) (by decide +kernel), List.mem_of_getElem? (i := 920) (by decide +kernel)⟩
theorem lw_p21 : lw_okq (⟨"PlayoutBufferModel", "sees", "(I)V"⟩, 11) := ⟨⟨by decide +kernel, by decide +kernel⟩, List.mem_of_getElem? (i := 824) (by decide +kernel), List.mem_of_getElem? (i := 923) (by decide +kernel), List.mem_of_getElem? (i := 924) (by decide +kernel)⟩
theorem lw_p22 : lw_okq (⟨"PlayoutBufferModel", "area", "()I"⟩, 11) := ⟨⟨by decide +kernel, by decide +kernel⟩, List.mem_of_getElem? (i := 824) (by decide +kernel), List.mem_of_getElem? (i := 927) (by decide +kernel), List.mem_of_getElem? (i := 928) (by decide +kernel)⟩
theorem lw_p23 : lw_okq (⟨"PlayoutBufferModel", "restores", "(IZ)I"⟩, 11) := ⟨⟨by decide +kernel, by decide +kernel⟩, List.mem_of_getElem? (i := 824) (by decide +kernel), List.mem_of_getElem? (i := 931) (by decide +kernel), List.mem_of_getElem? (i := 932) (by decide +kernel)⟩
theorem lw_p24 : lw_okq (⟨"PlayoutBufferModel", "packet", "(ZII)I"⟩, 11) := ⟨⟨by decide +kernel, by decide +kernel⟩, List.mem_of_getElem? (i := 824) (by decide +kernel), List.mem_of_getElem? (i := 935) (by decide +kernel), List.mem_of_getElem? (i := 936) (by decide +kernel)⟩
theorem lw_p25 : lw_okq (⟨"PlayoutBufferModel", "restoresBy", "(ZII)I"⟩, 11) := ⟨⟨by decide +kernel, by decide +kernel⟩, List.mem_of_getElem? (i := 824) (by decide +kernel), List.mem_of_getElem? (i := 939) (by decide +kernel), List.mem_of_getElem? (i := 940) (by decide +kernel)⟩
theorem lw_p26 : lw_okq (⟨"PlayoutBufferModel", "missingOf", "(ZII)I"⟩, 11) := ⟨⟨by decide +kernel, by decide +kernel⟩, List.mem_of_getElem? (i := 824) (by decide +kernel), List.mem_of_getElem? (i := 943) (by decide +kernel), List.mem_of_getElem? (i := 944) (by decide +kernel)⟩
theorem lw_p27 : lw_okq (⟨"PlayoutBufferModel", "covers", "(Z)I"⟩, 11) := ⟨⟨by decide +kernel, by decide +kernel⟩, List.mem_of_getElem? (i := 824) (by decide +kernel), List.mem_of_getElem? (i := 947) (by decide +kernel), List.mem_of_getElem? (i := 948) (by decide +kernel)⟩
theorem lw_p28 : lw_okq (⟨"PlayoutBufferModel", "covered", "(ZIII)I"⟩, 11) := ⟨⟨by decide +kernel, by decide +kernel⟩, List.mem_of_getElem? (i := 824) (by decide +kernel), List.mem_of_getElem? (i := 951) (by decide +kernel), List.mem_of_getElem? (i := 952) (by decide +kernel)⟩
theorem lw_p29 : lw_okq (⟨"PlayoutBufferModel", "isPacket", "(ZII)Z"⟩, 11) := ⟨⟨by decide +kernel, by decide +kernel⟩, List.mem_of_getElem? (i := 824) (by decide +kernel), List.mem_of_getElem? (i := 959) (by decide +kernel), List.mem_of_getElem? (i := 960) (by decide +kernel)⟩
theorem lw_p30 : lw_okq (⟨"PlayoutBufferModel", "arrivesParity", "(ZII)I"⟩, 11) := ⟨⟨by decide +kernel, by decide +kernel⟩, List.mem_of_getElem? (i := 824) (by decide +kernel), List.mem_of_getElem? (i := 963) (by decide +kernel), List.mem_of_getElem? (i := 964) (by decide +kernel)⟩
theorem lw_p31 : lw_okq (⟨"PlayoutBufferModel", "tick", "()I"⟩, 11) := ⟨⟨by decide +kernel, by decide +kernel⟩, List.mem_of_getElem? (i := 824) (by decide +kernel), List.mem_of_getElem? (i := 971) (by decide +kernel), List.mem_of_getElem? (i := 972) (by decide +kernel)⟩
def lw_privs_2 : List (MethodName × Nat) := [(⟨"PlayoutBufferModel", "isBegun", "()Z"⟩, 11), (⟨"PlayoutBufferModel", "put", "(II)I"⟩, 11), (⟨"PlayoutBufferModel", "arrives", "(I)I"⟩, 11), (⟨"PlayoutBufferModel", "isKnown", "(I)Z"⟩, 11), (⟨"PlayoutBufferModel", "begins", "()V"⟩, 11), (⟨"PlayoutBufferModel", "sees", "(I)V"⟩, 11), (⟨"PlayoutBufferModel", "area", "()I"⟩, 11), (⟨"PlayoutBufferModel", "restores", "(IZ)I"⟩, 11), (⟨"PlayoutBufferModel", "packet", "(ZII)I"⟩, 11), (⟨"PlayoutBufferModel", "restoresBy", "(ZII)I"⟩, 11), (⟨"PlayoutBufferModel", "missingOf", "(ZII)I"⟩, 11), (⟨"PlayoutBufferModel", "covers", "(Z)I"⟩, 11), (⟨"PlayoutBufferModel", "covered", "(ZIII)I"⟩, 11), (⟨"PlayoutBufferModel", "isPacket", "(ZII)Z"⟩, 11), (⟨"PlayoutBufferModel", "arrivesParity", "(ZII)I"⟩, 11), (⟨"PlayoutBufferModel", "tick", "()I"⟩, 11)]
theorem lw_r2 : ∀ q ∈ lw_privs_2, lw_okq q := List.forall_mem_cons.mpr ⟨lw_p16, List.forall_mem_cons.mpr ⟨lw_p17, List.forall_mem_cons.mpr ⟨lw_p18, List.forall_mem_cons.mpr ⟨lw_p19, List.forall_mem_cons.mpr ⟨lw_p20, List.forall_mem_cons.mpr ⟨lw_p21, List.forall_mem_cons.mpr ⟨lw_p22, List.forall_mem_cons.mpr ⟨lw_p23, List.forall_mem_cons.mpr ⟨lw_p24, List.forall_mem_cons.mpr ⟨lw_p25, List.forall_mem_cons.mpr ⟨lw_p26, List.forall_mem_cons.mpr ⟨lw_p27, List.forall_mem_cons.mpr ⟨lw_p28, List.forall_mem_cons.mpr ⟨lw_p29, List.forall_mem_cons.mpr ⟨lw_p30, List.forall_mem_cons.mpr ⟨lw_p31, fun _ h => absurd h List.not_mem_nil⟩⟩⟩⟩⟩⟩⟩⟩⟩⟩⟩⟩⟩⟩⟩⟩
theorem lw_p32 : lw_okq (⟨"PlayoutBufferModel", "arrivesBySchedule", "()V"⟩, 11) := ⟨⟨by decide +kernel, by decide +kernel⟩, List.mem_of_getElem? (i := 824) (by decide +kernel), List.mem_of_getElem? (i := 975) (by decide +kernel), List.mem_of_getElem? (i := 976) (by decide +kernel)⟩
theorem lw_p33 : lw_okq (⟨"PlayoutBufferModel", "takes", "()V"⟩, 11) := ⟨⟨by decide +kernel, by decide +kernel⟩, List.mem_of_getElem? (i := 824) (by decide +kernel), List.mem_of_getElem? (i := 979) (by decide +kernel), List.mem_of_getElem? (i := 980) (by decide +kernel)⟩
theorem lw_p34 : lw_okq (⟨"PlayoutBufferModel", "conceals", "()V"⟩, 11) := ⟨⟨by decide +kernel, by decide +kernel⟩, List.mem_of_getElem? (i := 824) (by decide +kernel), List.mem_of_getElem? (i := 983) (by decide +kernel), List.mem_of_getElem? (i := 984) (by decide +kernel)⟩
theorem lw_p35 : lw_okq (⟨"PlayoutBufferModel", "lagOfHistory", "()I"⟩, 11) := ⟨⟨by decide +kernel, by decide +kernel⟩, List.mem_of_getElem? (i := 824) (by decide +kernel), List.mem_of_getElem? (i := 987) (by decide +kernel), List.mem_of_getElem? (i := 988) (by decide +kernel)⟩
theorem lw_p36 : lw_okq (⟨"PlayoutBufferModel", "old", "(I)I"⟩, 11) := ⟨⟨by decide +kernel, by decide +kernel⟩, List.mem_of_getElem? (i := 824) (by decide +kernel), List.mem_of_getElem? (i := 991) (by decide +kernel), List.mem_of_getElem? (i := 992) (by decide +kernel)⟩
theorem lw_p37 : lw_okq (⟨"PlayoutBufferModel", "gives", "(I)V"⟩, 11) := ⟨⟨by decide +kernel, by decide +kernel⟩, List.mem_of_getElem? (i := 824) (by decide +kernel), List.mem_of_getElem? (i := 998) (by decide +kernel), List.mem_of_getElem? (i := 999) (by decide +kernel)⟩
theorem lw_p38 : lw_okq (⟨"PlayoutBufferModel", "fits", "(I)V"⟩, 11) := ⟨⟨by decide +kernel, by decide +kernel⟩, List.mem_of_getElem? (i := 824) (by decide +kernel), List.mem_of_getElem? (i := 1002) (by decide +kernel), List.mem_of_getElem? (i := 1003) (by decide +kernel)⟩
theorem lw_p39 : lw_okq (⟨"PlayoutBufferModel", "sampleOf", "(II)I"⟩, 11) := ⟨⟨by decide +kernel, by decide +kernel⟩, List.mem_of_getElem? (i := 824) (by decide +kernel), List.mem_of_getElem? (i := 1006) (by decide +kernel), List.mem_of_getElem? (i := 1007) (by decide +kernel)⟩
theorem lw_p40 : lw_okq (⟨"PlayoutBufferModel", "levelFrom", "(I)I"⟩, 11) := ⟨⟨by decide +kernel, by decide +kernel⟩, List.mem_of_getElem? (i := 824) (by decide +kernel), List.mem_of_getElem? (i := 1010) (by decide +kernel), List.mem_of_getElem? (i := 1011) (by decide +kernel)⟩
theorem lw_p41 : lw_okq (⟨"PlayoutBufferModel", "targetNow", "()I"⟩, 11) := ⟨⟨by decide +kernel, by decide +kernel⟩, List.mem_of_getElem? (i := 824) (by decide +kernel), List.mem_of_getElem? (i := 1014) (by decide +kernel), List.mem_of_getElem? (i := 1015) (by decide +kernel)⟩
theorem lw_p42 : lw_okq (⟨"PlayoutBufferModel", "sorts", "()V"⟩, 11) := ⟨⟨by decide +kernel, by decide +kernel⟩, List.mem_of_getElem? (i := 824) (by decide +kernel), List.mem_of_getElem? (i := 1018) (by decide +kernel), List.mem_of_getElem? (i := 1019) (by decide +kernel)⟩
theorem lw_p43 : lw_okq (⟨"PlayoutBufferModel", "lagOfFrame", "()I"⟩, 11) := ⟨⟨by decide +kernel, by decide +kernel⟩, List.mem_of_getElem? (i := 824) (by decide +kernel), List.mem_of_getElem? (i := 1022) (by decide +kernel), List.mem_of_getElem? (i := 1023) (by decide +kernel)⟩
theorem lw_p44 : lw_okq (⟨"PlayoutBufferModel", "keeps", "()V"⟩, 11) := ⟨⟨by decide +kernel, by decide +kernel⟩, List.mem_of_getElem? (i := 824) (by decide +kernel), List.mem_of_getElem? (i := 1073) (by decide +kernel), List.mem_of_getElem? (i := 1074) (by decide +kernel)⟩
theorem lw_p45 : lw_okq (⟨"PlayoutBufferModel", "brings", "()V"⟩, 11) := ⟨⟨by decide +kernel, by decide +kernel⟩, List.mem_of_getElem? (i := 824) (by decide +kernel), List.mem_of_getElem? (i := 1077) (by decide +kernel), List.mem_of_getElem? (i := 1078) (by decide +kernel)⟩
theorem lw_p46 : lw_okq (⟨"PlayoutBufferModel", "isText", "()Z"⟩, 11) := ⟨⟨by decide +kernel, by decide +kernel⟩, List.mem_of_getElem? (i := 824) (by decide +kernel), List.mem_of_getElem? (i := 1153) (by decide +kernel), List.mem_of_getElem? (i := 1154) (by decide +kernel)⟩
theorem lw_p47 : lw_okq (⟨"PlayoutBufferModel", "isEntry", "()Z"⟩, 11) := ⟨⟨by decide +kernel, by decide +kernel⟩, List.mem_of_getElem? (i := 824) (by decide +kernel), List.mem_of_getElem? (i := 1157) (by decide +kernel), List.mem_of_getElem? (i := 1158) (by decide +kernel)⟩
def lw_privs_3 : List (MethodName × Nat) := [(⟨"PlayoutBufferModel", "arrivesBySchedule", "()V"⟩, 11), (⟨"PlayoutBufferModel", "takes", "()V"⟩, 11), (⟨"PlayoutBufferModel", "conceals", "()V"⟩, 11), (⟨"PlayoutBufferModel", "lagOfHistory", "()I"⟩, 11), (⟨"PlayoutBufferModel", "old", "(I)I"⟩, 11), (⟨"PlayoutBufferModel", "gives", "(I)V"⟩, 11), (⟨"PlayoutBufferModel", "fits", "(I)V"⟩, 11), (⟨"PlayoutBufferModel", "sampleOf", "(II)I"⟩, 11), (⟨"PlayoutBufferModel", "levelFrom", "(I)I"⟩, 11), (⟨"PlayoutBufferModel", "targetNow", "()I"⟩, 11), (⟨"PlayoutBufferModel", "sorts", "()V"⟩, 11), (⟨"PlayoutBufferModel", "lagOfFrame", "()I"⟩, 11), (⟨"PlayoutBufferModel", "keeps", "()V"⟩, 11), (⟨"PlayoutBufferModel", "brings", "()V"⟩, 11), (⟨"PlayoutBufferModel", "isText", "()Z"⟩, 11), (⟨"PlayoutBufferModel", "isEntry", "()Z"⟩, 11)]
theorem lw_r3 : ∀ q ∈ lw_privs_3, lw_okq q := List.forall_mem_cons.mpr ⟨lw_p32, List.forall_mem_cons.mpr ⟨lw_p33, List.forall_mem_cons.mpr ⟨lw_p34, List.forall_mem_cons.mpr ⟨lw_p35, List.forall_mem_cons.mpr ⟨lw_p36, List.forall_mem_cons.mpr ⟨lw_p37, List.forall_mem_cons.mpr ⟨lw_p38, List.forall_mem_cons.mpr ⟨lw_p39, List.forall_mem_cons.mpr ⟨lw_p40, List.forall_mem_cons.mpr ⟨lw_p41, List.forall_mem_cons.mpr ⟨lw_p42, List.forall_mem_cons.mpr ⟨lw_p43, List.forall_mem_cons.mpr ⟨lw_p44, List.forall_mem_cons.mpr ⟨lw_p45, List.forall_mem_cons.mpr ⟨lw_p46, List.forall_mem_cons.mpr ⟨lw_p47, fun _ h => absurd h List.not_mem_nil⟩⟩⟩⟩⟩⟩⟩⟩⟩⟩⟩⟩⟩⟩⟩⟩
theorem lw_p48 : lw_okq (⟨"PlayoutBufferModel", "here", "()I"⟩, 11) := ⟨⟨by decide +kernel, by decide +kernel⟩, List.mem_of_getElem? (i := 824) (by decide +kernel), List.mem_of_getElem? (i := 1161) (by decide +kernel), List.mem_of_getElem? (i := 1162) (by decide +kernel)⟩
theorem lw_p49 : lw_okq (⟨"PlayoutBufferModel", "number", "()I"⟩, 11) := ⟨⟨by decide +kernel, by decide +kernel⟩, List.mem_of_getElem? (i := 824) (by decide +kernel), List.mem_of_getElem? (i := 1165) (by decide +kernel), List.mem_of_getElem? (i := 1166) (by decide +kernel)⟩
theorem lw_p50 : lw_okq (⟨"PlayoutBufferModel", "takes", "(I)Z"⟩, 11) := ⟨⟨by decide +kernel, by decide +kernel⟩, List.mem_of_getElem? (i := 824) (by decide +kernel), List.mem_of_getElem? (i := 1169) (by decide +kernel), List.mem_of_getElem? (i := 1170) (by decide +kernel)⟩
theorem lw_p51 : lw_okq (⟨"PlayoutBufferModel", "isArrival", "(I)Z"⟩, 11) := ⟨⟨by decide +kernel, by decide +kernel⟩, List.mem_of_getElem? (i := 824) (by decide +kernel), List.mem_of_getElem? (i := 1177) (by decide +kernel), List.mem_of_getElem? (i := 1178) (by decide +kernel)⟩
def lw_privs_4 : List (MethodName × Nat) := [(⟨"PlayoutBufferModel", "here", "()I"⟩, 11), (⟨"PlayoutBufferModel", "number", "()I"⟩, 11), (⟨"PlayoutBufferModel", "takes", "(I)Z"⟩, 11), (⟨"PlayoutBufferModel", "isArrival", "(I)Z"⟩, 11)]
theorem lw_r4 : ∀ q ∈ lw_privs_4, lw_okq q := List.forall_mem_cons.mpr ⟨lw_p48, List.forall_mem_cons.mpr ⟨lw_p49, List.forall_mem_cons.mpr ⟨lw_p50, List.forall_mem_cons.mpr ⟨lw_p51, fun _ h => absurd h List.not_mem_nil⟩⟩⟩⟩
def lw_privs : List (MethodName × Nat) := lw_privs_1 ++ (lw_privs_2 ++ (lw_privs_3 ++ (lw_privs_4)))
def lw_tbl : List Cond := k2_sels lw_privs ++ tables_1
theorem lw_privs_ok : ∀ q ∈ lw_privs, lw_okq q := by
  show ∀ q ∈ lw_privs_1 ++ (lw_privs_2 ++ (lw_privs_3 ++ (lw_privs_4))), lw_okq q
  exact List.forall_mem_append.mpr ⟨lw_r1, List.forall_mem_append.mpr ⟨lw_r2, List.forall_mem_append.mpr ⟨lw_r3, lw_r4⟩⟩⟩

def RX0 : String := "PlayoutBuffer$ArrivalText"
def TX0 : u_T := fun k => match k with
  | 0 => ("PlayoutBuffer$ArrivalText", "characters", "[I", true)
  | 1 => ("PlayoutBuffer$ArrivalText", "length", "I", false)
  | 2 => ("PlayoutBuffer$ArrivalText", "expected", "I", false)
  | 3 => ("PlayoutBuffer$ArrivalText", "digits", "I", false)
  | 4 => ("PlayoutBuffer$ArrivalText", "value", "I", false)
  | 5 => ("PlayoutBuffer$ArrivalText", "kind", "I", false)
  | 6 => ("PlayoutBuffer$ArrivalText", "number", "I", false)
  | _ => ("PlayoutBuffer$ArrivalText", "index", "I", false)
def tyX0 : Nat → FieldType := fun k => match k with
  | 0 => .array .int
  | 1 => .int
  | 2 => .int
  | 3 => .int
  | 4 => .int
  | 5 => .int
  | 6 => .int
  | _ => .int
abbrev wsX00 : List Cond := u_ws RX0 TX0 8
theorem nmX0 : ∀ a, a < 8 → ∀ b, b < 8 → a ≠ b → (TX0 a).2.1 ≠ (TX0 b).2.1 := by decide +kernel
theorem tyX0_ok : ∀ k, k < 8 → parseFieldDescriptor (TX0 k).2.2.1 = some (tyX0 k) := by decide +kernel
abbrev cX0_init : ByteArray := prog_2_method_1_code
def yX0_init : MethodName := ⟨RX0, "<init>", "()V"⟩
abbrev cX0_write : ByteArray := prog_2_method_2_code
def yX0_write : MethodName := ⟨RX0, "write", "(I)V"⟩
abbrev cX0_readInto : ByteArray := prog_2_method_3_code
def yX0_readInto : MethodName := ⟨RX0, "readInto", "(LPlayoutBuffer$Arrivals;)I"⟩
abbrev cX0_follows : ByteArray := prog_2_method_4_code
def yX0_follows : MethodName := ⟨RX0, "follows", "(ILPlayoutBuffer$Arrivals;)Z"⟩
abbrev cX0_beginsEntry : ByteArray := prog_2_method_5_code
def yX0_beginsEntry : MethodName := ⟨RX0, "beginsEntry", "(I)Z"⟩
abbrev cX0_endOfNumber : ByteArray := prog_2_method_6_code
def yX0_endOfNumber : MethodName := ⟨RX0, "endOfNumber", "()I"⟩
abbrev cX0_endNumber : ByteArray := prog_2_method_7_code
def yX0_endNumber : MethodName := ⟨RX0, "endNumber", "(LPlayoutBuffer$Arrivals;)V"⟩
abbrev cX0_expect : ByteArray := prog_2_method_8_code
def yX0_expect : MethodName := ⟨RX0, "expect", "(I)V"⟩
def RX1 : String := "PlayoutBuffer$Arrivals"
def TX1 : u_T := fun k => match k with
  | 0 => ("PlayoutBuffer$Arrivals", "kinds", "[I", true)
  | 1 => ("PlayoutBuffer$Arrivals", "numbers", "[I", true)
  | 2 => ("PlayoutBuffer$Arrivals", "indexes", "[I", true)
  | 3 => ("PlayoutBuffer$Arrivals", "times", "[I", true)
  | _ => ("PlayoutBuffer$Arrivals", "size", "I", false)
def tyX1 : Nat → FieldType := fun k => match k with
  | 0 => .array .int
  | 1 => .array .int
  | 2 => .array .int
  | 3 => .array .int
  | _ => .int
abbrev wsX10 : List Cond := u_ws RX1 TX1 5
theorem nmX1 : ∀ a, a < 5 → ∀ b, b < 5 → a ≠ b → (TX1 a).2.1 ≠ (TX1 b).2.1 := by decide +kernel
theorem tyX1_ok : ∀ k, k < 5 → parseFieldDescriptor (TX1 k).2.2.1 = some (tyX1 k) := by decide +kernel
abbrev cX1_init : ByteArray := prog_3_method_1_code
def yX1_init : MethodName := ⟨RX1, "<init>", "()V"⟩
abbrev cX1_copyFrom : ByteArray := prog_3_method_2_code
def yX1_copyFrom : MethodName := ⟨RX1, "copyFrom", "(LPlayoutBuffer$Arrivals;)V"⟩
abbrev cX1_addAll : ByteArray := prog_3_method_3_code
def yX1_addAll : MethodName := ⟨RX1, "addAll", "(LPlayoutBuffer$Arrivals;)V"⟩
abbrev cX1_add : ByteArray := prog_3_method_4_code
def yX1_add : MethodName := ⟨RX1, "add", "(IIII)V"⟩
abbrev cX1_removeAllAt : ByteArray := prog_3_method_5_code
def yX1_removeAllAt : MethodName := ⟨RX1, "removeAllAt", "(I)V"⟩
def RX2 : String := "PlayoutBuffer$Counters"
def TX2 : u_T := fun k => match k with
  | 0 => ("PlayoutBuffer$Counters", "played", "I", false)
  | 1 => ("PlayoutBuffer$Counters", "restored", "I", false)
  | 2 => ("PlayoutBuffer$Counters", "concealed", "I", false)
  | 3 => ("PlayoutBuffer$Counters", "stretched", "I", false)
  | 4 => ("PlayoutBuffer$Counters", "compressed", "I", false)
  | 5 => ("PlayoutBuffer$Counters", "late", "I", false)
  | 6 => ("PlayoutBuffer$Counters", "duplicates", "I", false)
  | 7 => ("PlayoutBuffer$Counters", "gap", "I", false)
  | _ => ("PlayoutBuffer$Counters", "longestGap", "I", false)
def tyX2 : Nat → FieldType := fun k => match k with
  | 0 => .int
  | 1 => .int
  | 2 => .int
  | 3 => .int
  | 4 => .int
  | 5 => .int
  | 6 => .int
  | 7 => .int
  | _ => .int
abbrev wsX20 : List Cond := u_ws RX2 TX2 9
theorem nmX2 : ∀ a, a < 9 → ∀ b, b < 9 → a ≠ b → (TX2 a).2.1 ≠ (TX2 b).2.1 := by decide +kernel
theorem tyX2_ok : ∀ k, k < 9 → parseFieldDescriptor (TX2 k).2.2.1 = some (tyX2 k) := by decide +kernel
abbrev cX2_init : ByteArray := prog_4_method_1_code
def yX2_init : MethodName := ⟨RX2, "<init>", "()V"⟩
abbrev cX2_copyFrom : ByteArray := prog_4_method_2_code
def yX2_copyFrom : MethodName := ⟨RX2, "copyFrom", "(LPlayoutBuffer$Counters;)V"⟩
abbrev cX2_takenAs : ByteArray := prog_4_method_3_code
def yX2_takenAs : MethodName := ⟨RX2, "takenAs", "(I)I"⟩
abbrev cX2_countKnown : ByteArray := prog_4_method_4_code
def yX2_countKnown : MethodName := ⟨RX2, "countKnown", "(I)V"⟩
abbrev cX2_countConcealed : ByteArray := prog_4_method_5_code
def yX2_countConcealed : MethodName := ⟨RX2, "countConcealed", "()V"⟩
def RX3 : String := "PlayoutBuffer$Frames"
def TX3 : u_T := fun k => match k with
  | 0 => ("PlayoutBuffer$Frames", "known", "[J", true)
  | 1 => ("PlayoutBuffer$Frames", "arrived", "[J", true)
  | _ => ("PlayoutBuffer$Frames", "packets", "[I", true)
def tyX3 : Nat → FieldType := fun k => match k with
  | 0 => .array .long
  | 1 => .array .long
  | _ => .array .int
abbrev wsX30 : List Cond := u_ws RX3 TX3 3
theorem nmX3 : ∀ a, a < 3 → ∀ b, b < 3 → a ≠ b → (TX3 a).2.1 ≠ (TX3 b).2.1 := by decide +kernel
theorem tyX3_ok : ∀ k, k < 3 → parseFieldDescriptor (TX3 k).2.2.1 = some (tyX3 k) := by decide +kernel
abbrev cX3_init : ByteArray := prog_5_method_1_code
def yX3_init : MethodName := ⟨RX3, "<init>", "()V"⟩
abbrev cX3_copyFrom : ByteArray := prog_5_method_2_code
def yX3_copyFrom : MethodName := ⟨RX3, "copyFrom", "(LPlayoutBuffer$Frames;)V"⟩
abbrev cX3_stateOf : ByteArray := prog_5_method_3_code
def yX3_stateOf : MethodName := ⟨RX3, "stateOf", "(LPlayoutBuffer$Settings;I)I"⟩
abbrev cX3_hasPacket : ByteArray := prog_5_method_4_code
def yX3_hasPacket : MethodName := ⟨RX3, "hasPacket", "(ZII)Z"⟩
abbrev cX3_addFrame : ByteArray := prog_5_method_5_code
def yX3_addFrame : MethodName := ⟨RX3, "addFrame", "(LPlayoutBuffer$Settings;I)V"⟩
abbrev cX3_addPacket : ByteArray := prog_5_method_6_code
def yX3_addPacket : MethodName := ⟨RX3, "addPacket", "(ZII)V"⟩
abbrev cX3_restoreIn : ByteArray := prog_5_method_7_code
def yX3_restoreIn : MethodName := ⟨RX3, "restoreIn", "(LPlayoutBuffer$Settings;I)I"⟩
abbrev cX3_missingIn : ByteArray := prog_5_method_8_code
def yX3_missingIn : MethodName := ⟨RX3, "missingIn", "(LPlayoutBuffer$Settings;ZII)I"⟩
abbrev cX3_unrestorableIn : ByteArray := prog_5_method_9_code
def yX3_unrestorableIn : MethodName := ⟨RX3, "unrestorableIn", "(LPlayoutBuffer$Settings;I)I"⟩
abbrev cX3_knownFrom : ByteArray := prog_5_method_10_code
def yX3_knownFrom : MethodName := ⟨RX3, "knownFrom", "(LPlayoutBuffer$Settings;I)I"⟩
abbrev cX3_knownIn : ByteArray := prog_5_method_11_code
def yX3_knownIn : MethodName := ⟨RX3, "knownIn", "(LPlayoutBuffer$Settings;I)J"⟩
abbrev cX3_completed : ByteArray := prog_5_method_12_code
def yX3_completed : MethodName := ⟨RX3, "completed", "(LPlayoutBuffer$Settings;JI)J"⟩
abbrev cX3_withLine : ByteArray := prog_5_method_13_code
def yX3_withLine : MethodName := ⟨RX3, "withLine", "(LPlayoutBuffer$Settings;JIZI)J"⟩
abbrev cX3_packetBit : ByteArray := prog_5_method_14_code
def yX3_packetBit : MethodName := ⟨RX3, "packetBit", "(ZI)I"⟩
abbrev cX3_lineBits : ByteArray := prog_5_method_15_code
def yX3_lineBits : MethodName := ⟨RX3, "lineBits", "(LPlayoutBuffer$Settings;ZI)J"⟩
def RX4 : String := "PlayoutBuffer$Player"
def TX4 : u_T := fun k => match k with
  | 0 => ("PlayoutBuffer$Player", "frame", "[I", true)
  | 1 => ("PlayoutBuffer$Player", "length", "I", false)
  | 2 => ("PlayoutBuffer$Player", "position", "I", false)
  | 3 => ("PlayoutBuffer$Player", "history", "[I", true)
  | 4 => ("PlayoutBuffer$Player", "outputs", "I", false)
  | 5 => ("PlayoutBuffer$Player", "kinds", "[I", true)
  | 6 => ("PlayoutBuffer$Player", "next", "I", false)
  | _ => ("PlayoutBuffer$Player", "source", "[I", true)
def tyX4 : Nat → FieldType := fun k => match k with
  | 0 => .array .int
  | 1 => .int
  | 2 => .int
  | 3 => .array .int
  | 4 => .int
  | 5 => .array .int
  | 6 => .int
  | _ => .array .int
abbrev wsX40 : List Cond := u_ws RX4 TX4 8
theorem nmX4 : ∀ a, a < 8 → ∀ b, b < 8 → a ≠ b → (TX4 a).2.1 ≠ (TX4 b).2.1 := by decide +kernel
theorem tyX4_ok : ∀ k, k < 8 → parseFieldDescriptor (TX4 k).2.2.1 = some (tyX4 k) := by decide +kernel
abbrev cX4_init : ByteArray := prog_6_method_1_code
def yX4_init : MethodName := ⟨RX4, "<init>", "()V"⟩
abbrev cX4_copyFrom : ByteArray := prog_6_method_2_code
def yX4_copyFrom : MethodName := ⟨RX4, "copyFrom", "(LPlayoutBuffer$Player;)V"⟩
abbrev cX4_remaining : ByteArray := prog_6_method_3_code
def yX4_remaining : MethodName := ⟨RX4, "remaining", "()I"⟩
abbrev cX4_outputAt : ByteArray := prog_6_method_4_code
def yX4_outputAt : MethodName := ⟨RX4, "outputAt", "(I)I"⟩
abbrev cX4_kindAt : ByteArray := prog_6_method_5_code
def yX4_kindAt : MethodName := ⟨RX4, "kindAt", "(I)I"⟩
abbrev cX4_putOut : ByteArray := prog_6_method_6_code
def yX4_putOut : MethodName := ⟨RX4, "putOut", "()V"⟩
abbrev cX4_begin : ByteArray := prog_6_method_7_code
def yX4_begin : MethodName := ⟨RX4, "begin", "(I)V"⟩
abbrev cX4_loadWave : ByteArray := prog_6_method_8_code
def yX4_loadWave : MethodName := ⟨RX4, "loadWave", "(LPlayoutBuffer$Settings;I)V"⟩
abbrev cX4_putAsItIs : ByteArray := prog_6_method_9_code
def yX4_putAsItIs : MethodName := ⟨RX4, "putAsItIs", "(I)V"⟩
abbrev cX4_putCompressed : ByteArray := prog_6_method_10_code
def yX4_putCompressed : MethodName := ⟨RX4, "putCompressed", "(I)V"⟩
abbrev cX4_putStretched : ByteArray := prog_6_method_11_code
def yX4_putStretched : MethodName := ⟨RX4, "putStretched", "(I)V"⟩
abbrev cX4_putConcealed : ByteArray := prog_6_method_12_code
def yX4_putConcealed : MethodName := ⟨RX4, "putConcealed", "(II)V"⟩
abbrev cX4_putSource : ByteArray := prog_6_method_13_code
def yX4_putSource : MethodName := ⟨RX4, "putSource", "(II)V"⟩
abbrev cX4_put : ByteArray := prog_6_method_14_code
def yX4_put : MethodName := ⟨RX4, "put", "(I)V"⟩
abbrev cX4_bestLag : ByteArray := prog_6_method_15_code
def yX4_bestLag : MethodName := ⟨RX4, "bestLag", "(IZ)I"⟩
abbrev cX4_differences : ByteArray := prog_6_method_16_code
def yX4_differences : MethodName := ⟨RX4, "differences", "(I)I"⟩
abbrev cX4_faded : ByteArray := prog_6_method_17_code
def yX4_faded : MethodName := ⟨RX4, "faded", "(II)I"⟩
def RX5 : String := "PlayoutBuffer$Receiver"
def TX5 : u_T := fun k => match k with
  | 0 => ("PlayoutBuffer$Receiver", "settings", "LPlayoutBuffer$Settings;", true)
  | 1 => ("PlayoutBuffer$Receiver", "frames", "LPlayoutBuffer$Frames;", true)
  | 2 => ("PlayoutBuffer$Receiver", "transits", "LPlayoutBuffer$Transits;", true)
  | 3 => ("PlayoutBuffer$Receiver", "player", "LPlayoutBuffer$Player;", true)
  | 4 => ("PlayoutBuffer$Receiver", "counters", "LPlayoutBuffer$Counters;", true)
  | 5 => ("PlayoutBuffer$Receiver", "schedule", "LPlayoutBuffer$Arrivals;", true)
  | 6 => ("PlayoutBuffer$Receiver", "time", "I", false)
  | 7 => ("PlayoutBuffer$Receiver", "started", "Z", false)
  | _ => ("PlayoutBuffer$Receiver", "start", "I", false)
def tyX5 : Nat → FieldType := fun k => match k with
  | 0 => .object "PlayoutBuffer$Settings"
  | 1 => .object "PlayoutBuffer$Frames"
  | 2 => .object "PlayoutBuffer$Transits"
  | 3 => .object "PlayoutBuffer$Player"
  | 4 => .object "PlayoutBuffer$Counters"
  | 5 => .object "PlayoutBuffer$Arrivals"
  | 6 => .int
  | 7 => .boolean
  | _ => .int
abbrev wsX50 : List Cond := u_ws RX5 TX5 9
theorem nmX5 : ∀ a, a < 9 → ∀ b, b < 9 → a ≠ b → (TX5 a).2.1 ≠ (TX5 b).2.1 := by decide +kernel
theorem tyX5_ok : ∀ k, k < 9 → parseFieldDescriptor (TX5 k).2.2.1 = some (tyX5 k) := by decide +kernel
abbrev cX5_init : ByteArray := prog_7_method_1_code
def yX5_init : MethodName := ⟨RX5, "<init>", "()V"⟩
abbrev cX5_copyFrom : ByteArray := prog_7_method_2_code
def yX5_copyFrom : MethodName := ⟨RX5, "copyFrom", "(LPlayoutBuffer$Receiver;)V"⟩
abbrev cX5_hasBegun : ByteArray := prog_7_method_3_code
def yX5_hasBegun : MethodName := ⟨RX5, "hasBegun", "()Z"⟩
abbrev cX5_targetNow : ByteArray := prog_7_method_4_code
def yX5_targetNow : MethodName := ⟨RX5, "targetNow", "()I"⟩
abbrev cX5_levelFrom : ByteArray := prog_7_method_5_code
def yX5_levelFrom : MethodName := ⟨RX5, "levelFrom", "(I)I"⟩
abbrev cX5_acceptFrame : ByteArray := prog_7_method_6_code
def yX5_acceptFrame : MethodName := ⟨RX5, "acceptFrame", "(I)I"⟩
abbrev cX5_acceptPacket : ByteArray := prog_7_method_7_code
def yX5_acceptPacket : MethodName := ⟨RX5, "acceptPacket", "(ZII)I"⟩
abbrev cX5_passTick : ByteArray := prog_7_method_8_code
def yX5_passTick : MethodName := ⟨RX5, "passTick", "()V"⟩
abbrev cX5_startOnce : ByteArray := prog_7_method_9_code
def yX5_startOnce : MethodName := ⟨RX5, "startOnce", "()V"⟩
abbrev cX5_acceptDue : ByteArray := prog_7_method_10_code
def yX5_acceptDue : MethodName := ⟨RX5, "acceptDue", "()V"⟩
abbrev cX5_takeFrame : ByteArray := prog_7_method_11_code
def yX5_takeFrame : MethodName := ⟨RX5, "takeFrame", "(I)V"⟩
abbrev cX5_putKnown : ByteArray := prog_7_method_12_code
def yX5_putKnown : MethodName := ⟨RX5, "putKnown", "(I)V"⟩
def RX6 : String := "PlayoutBuffer$Settings"
def TX6 : u_T := fun k => match k with
  | 0 => ("PlayoutBuffer$Settings", "samples", "I", false)
  | 1 => ("PlayoutBuffer$Settings", "period", "I", false)
  | 2 => ("PlayoutBuffer$Settings", "slope", "I", false)
  | 3 => ("PlayoutBuffer$Settings", "columns", "I", false)
  | 4 => ("PlayoutBuffer$Settings", "rows", "I", false)
  | 5 => ("PlayoutBuffer$Settings", "initialDelay", "I", false)
  | 6 => ("PlayoutBuffer$Settings", "quantile", "I", false)
  | 7 => ("PlayoutBuffer$Settings", "margin", "I", false)
  | _ => ("PlayoutBuffer$Settings", "adapting", "Z", false)
def tyX6 : Nat → FieldType := fun k => match k with
  | 0 => .int
  | 1 => .int
  | 2 => .int
  | 3 => .int
  | 4 => .int
  | 5 => .int
  | 6 => .int
  | 7 => .int
  | _ => .boolean
abbrev wsX60 : List Cond := u_ws RX6 TX6 9
theorem nmX6 : ∀ a, a < 9 → ∀ b, b < 9 → a ≠ b → (TX6 a).2.1 ≠ (TX6 b).2.1 := by decide +kernel
theorem tyX6_ok : ∀ k, k < 9 → parseFieldDescriptor (TX6 k).2.2.1 = some (tyX6 k) := by decide +kernel
abbrev cX6_init : ByteArray := prog_8_method_1_code
def yX6_init : MethodName := ⟨RX6, "<init>", "()V"⟩
abbrev cX6_copyFrom : ByteArray := prog_8_method_2_code
def yX6_copyFrom : MethodName := ⟨RX6, "copyFrom", "(LPlayoutBuffer$Settings;)V"⟩
abbrev cX6_waveAt : ByteArray := prog_8_method_3_code
def yX6_waveAt : MethodName := ⟨RX6, "waveAt", "(II)I"⟩
abbrev cX6_cells : ByteArray := prog_8_method_4_code
def yX6_cells : MethodName := ⟨RX6, "cells", "()I"⟩
abbrev cX6_hasBlock : ByteArray := prog_8_method_5_code
def yX6_hasBlock : MethodName := ⟨RX6, "hasBlock", "(I)Z"⟩
abbrev cX6_hasPacket : ByteArray := prog_8_method_6_code
def yX6_hasPacket : MethodName := ⟨RX6, "hasPacket", "(ZII)Z"⟩
abbrev cX6_coveredFrame : ByteArray := prog_8_method_7_code
def yX6_coveredFrame : MethodName := ⟨RX6, "coveredFrame", "(ZIII)I"⟩
def RX7 : String := "PlayoutBuffer$Transits"
def TX7 : u_T := fun k => match k with
  | 0 => ("PlayoutBuffer$Transits", "latest", "[I", true)
  | 1 => ("PlayoutBuffer$Transits", "ascending", "[I", true)
  | 2 => ("PlayoutBuffer$Transits", "count", "I", false)
  | _ => ("PlayoutBuffer$Transits", "place", "I", false)
def tyX7 : Nat → FieldType := fun k => match k with
  | 0 => .array .int
  | 1 => .array .int
  | 2 => .int
  | _ => .int
abbrev wsX70 : List Cond := u_ws RX7 TX7 4
theorem nmX7 : ∀ a, a < 4 → ∀ b, b < 4 → a ≠ b → (TX7 a).2.1 ≠ (TX7 b).2.1 := by decide +kernel
theorem tyX7_ok : ∀ k, k < 4 → parseFieldDescriptor (TX7 k).2.2.1 = some (tyX7 k) := by decide +kernel
abbrev cX7_init : ByteArray := prog_9_method_1_code
def yX7_init : MethodName := ⟨RX7, "<init>", "()V"⟩
abbrev cX7_copyFrom : ByteArray := prog_9_method_2_code
def yX7_copyFrom : MethodName := ⟨RX7, "copyFrom", "(LPlayoutBuffer$Transits;)V"⟩
abbrev cX7_add : ByteArray := prog_9_method_3_code
def yX7_add : MethodName := ⟨RX7, "add", "(I)V"⟩
abbrev cX7_ascendingAt : ByteArray := prog_9_method_4_code
def yX7_ascendingAt : MethodName := ⟨RX7, "ascendingAt", "(I)I"⟩
abbrev cX7_spread : ByteArray := prog_9_method_5_code
def yX7_spread : MethodName := ⟨RX7, "spread", "(I)I"⟩
abbrev cX7_insert : ByteArray := prog_9_method_6_code
def yX7_insert : MethodName := ⟨RX7, "insert", "(II)V"⟩
def RX8 : String := "PlayoutBuffer"
def TX8 : u_T := fun k => match k with
  | 0 => ("PlayoutBuffer", "receiver", "LPlayoutBuffer$Receiver;", true)
  | 1 => ("PlayoutBuffer", "forecast", "LPlayoutBuffer$Receiver;", true)
  | 2 => ("PlayoutBuffer", "slots", "[LPlayoutBuffer$Receiver;", true)
  | 3 => ("PlayoutBuffer", "text", "LPlayoutBuffer$ArrivalText;", true)
  | _ => ("PlayoutBuffer", "described", "LPlayoutBuffer$Arrivals;", true)
def tyX8 : Nat → FieldType := fun k => match k with
  | 0 => .object "PlayoutBuffer$Receiver"
  | 1 => .object "PlayoutBuffer$Receiver"
  | 2 => .array (.object "PlayoutBuffer$Receiver")
  | 3 => .object "PlayoutBuffer$ArrivalText"
  | _ => .object "PlayoutBuffer$Arrivals"
abbrev wsX80 : List Cond := u_ws RX8 TX8 5
theorem nmX8 : ∀ a, a < 5 → ∀ b, b < 5 → a ≠ b → (TX8 a).2.1 ≠ (TX8 b).2.1 := by decide +kernel
theorem tyX8_ok : ∀ k, k < 5 → parseFieldDescriptor (TX8 k).2.2.1 = some (tyX8 k) := by decide +kernel
abbrev cX8_init : ByteArray := prog_1_method_1_code
def yX8_init : MethodName := ⟨RX8, "<init>", "()V"⟩
abbrev cX8_setFrame : ByteArray := prog_1_method_2_code
def yX8_setFrame : MethodName := ⟨RX8, "setFrame", "(I)I"⟩
abbrev cX8_setWave : ByteArray := prog_1_method_3_code
def yX8_setWave : MethodName := ⟨RX8, "setWave", "(II)I"⟩
abbrev cX8_setBlock : ByteArray := prog_1_method_4_code
def yX8_setBlock : MethodName := ⟨RX8, "setBlock", "(II)I"⟩
abbrev cX8_setInitialDelay : ByteArray := prog_1_method_5_code
def yX8_setInitialDelay : MethodName := ⟨RX8, "setInitialDelay", "(I)I"⟩
abbrev cX8_setQuantile : ByteArray := prog_1_method_6_code
def yX8_setQuantile : MethodName := ⟨RX8, "setQuantile", "(I)I"⟩
abbrev cX8_setMargin : ByteArray := prog_1_method_7_code
def yX8_setMargin : MethodName := ⟨RX8, "setMargin", "(I)I"⟩
abbrev cX8_setAdapting : ByteArray := prog_1_method_8_code
def yX8_setAdapting : MethodName := ⟨RX8, "setAdapting", "(Z)I"⟩
abbrev cX8_arrive : ByteArray := prog_1_method_9_code
def yX8_arrive : MethodName := ⟨RX8, "arrive", "(I)I"⟩
abbrev cX8_arriveParity : ByteArray := prog_1_method_10_code
def yX8_arriveParity : MethodName := ⟨RX8, "arriveParity", "(ZII)I"⟩
abbrev cX8_advance : ByteArray := prog_1_method_11_code
def yX8_advance : MethodName := ⟨RX8, "advance", "(I)I"⟩
abbrev cX8_time : ByteArray := prog_1_method_12_code
def yX8_time : MethodName := ⟨RX8, "time", "()I"⟩
abbrev cX8_start : ByteArray := prog_1_method_13_code
def yX8_start : MethodName := ⟨RX8, "start", "()I"⟩
abbrev cX8_output : ByteArray := prog_1_method_14_code
def yX8_output : MethodName := ⟨RX8, "output", "(I)I"⟩
abbrev cX8_outputs : ByteArray := prog_1_method_15_code
def yX8_outputs : MethodName := ⟨RX8, "outputs", "()I"⟩
abbrev cX8_left : ByteArray := prog_1_method_16_code
def yX8_left : MethodName := ⟨RX8, "left", "()I"⟩
abbrev cX8_next : ByteArray := prog_1_method_17_code
def yX8_next : MethodName := ⟨RX8, "next", "()I"⟩
abbrev cX8_kind : ByteArray := prog_1_method_18_code
def yX8_kind : MethodName := ⟨RX8, "kind", "(I)I"⟩
abbrev cX8_state : ByteArray := prog_1_method_19_code
def yX8_state : MethodName := ⟨RX8, "state", "(I)I"⟩
abbrev cX8_sample : ByteArray := prog_1_method_20_code
def yX8_sample : MethodName := ⟨RX8, "sample", "(II)I"⟩
abbrev cX8_missing : ByteArray := prog_1_method_21_code
def yX8_missing : MethodName := ⟨RX8, "missing", "(ZII)I"⟩
abbrev cX8_unrestorable : ByteArray := prog_1_method_22_code
def yX8_unrestorable : MethodName := ⟨RX8, "unrestorable", "(I)I"⟩
abbrev cX8_paritySample : ByteArray := prog_1_method_23_code
def yX8_paritySample : MethodName := ⟨RX8, "paritySample", "(ZIII)I"⟩
abbrev cX8_transits : ByteArray := prog_1_method_24_code
def yX8_transits : MethodName := ⟨RX8, "transits", "()I"⟩
abbrev cX8_transit : ByteArray := prog_1_method_25_code
def yX8_transit : MethodName := ⟨RX8, "transit", "(I)I"⟩
abbrev cX8_target : ByteArray := prog_1_method_26_code
def yX8_target : MethodName := ⟨RX8, "target", "()I"⟩
abbrev cX8_level : ByteArray := prog_1_method_27_code
def yX8_level : MethodName := ⟨RX8, "level", "()I"⟩
abbrev cX8_taken : ByteArray := prog_1_method_28_code
def yX8_taken : MethodName := ⟨RX8, "taken", "(I)I"⟩
abbrev cX8_stretched : ByteArray := prog_1_method_29_code
def yX8_stretched : MethodName := ⟨RX8, "stretched", "()I"⟩
abbrev cX8_compressed : ByteArray := prog_1_method_30_code
def yX8_compressed : MethodName := ⟨RX8, "compressed", "()I"⟩
abbrev cX8_late : ByteArray := prog_1_method_31_code
def yX8_late : MethodName := ⟨RX8, "late", "()I"⟩
abbrev cX8_duplicates : ByteArray := prog_1_method_32_code
def yX8_duplicates : MethodName := ⟨RX8, "duplicates", "()I"⟩
abbrev cX8_loss : ByteArray := prog_1_method_33_code
def yX8_loss : MethodName := ⟨RX8, "loss", "(Z)I"⟩
abbrev cX8_longestGap : ByteArray := prog_1_method_34_code
def yX8_longestGap : MethodName := ⟨RX8, "longestGap", "()I"⟩
abbrev cX8_ticksToGap : ByteArray := prog_1_method_35_code
def yX8_ticksToGap : MethodName := ⟨RX8, "ticksToGap", "()I"⟩
abbrev cX8_gapsIn : ByteArray := prog_1_method_36_code
def yX8_gapsIn : MethodName := ⟨RX8, "gapsIn", "(I)I"⟩
abbrev cX8_ticksToFrame : ByteArray := prog_1_method_37_code
def yX8_ticksToFrame : MethodName := ⟨RX8, "ticksToFrame", "(I)I"⟩
abbrev cX8_append : ByteArray := prog_1_method_38_code
def yX8_append : MethodName := ⟨RX8, "append", "(I)I"⟩
abbrev cX8_clearText : ByteArray := prog_1_method_39_code
def yX8_clearText : MethodName := ⟨RX8, "clearText", "()I"⟩
abbrev cX8_faultPosition : ByteArray := prog_1_method_40_code
def yX8_faultPosition : MethodName := ⟨RX8, "faultPosition", "()I"⟩
abbrev cX8_schedule : ByteArray := prog_1_method_41_code
def yX8_schedule : MethodName := ⟨RX8, "schedule", "()I"⟩
abbrev cX8_scheduled : ByteArray := prog_1_method_42_code
def yX8_scheduled : MethodName := ⟨RX8, "scheduled", "()I"⟩
abbrev cX8_keep : ByteArray := prog_1_method_43_code
def yX8_keep : MethodName := ⟨RX8, "keep", "(I)I"⟩
abbrev cX8_restore : ByteArray := prog_1_method_44_code
def yX8_restore : MethodName := ⟨RX8, "restore", "(I)I"⟩
abbrev cX8_checksum : ByteArray := prog_1_method_45_code
def yX8_checksum : MethodName := ⟨RX8, "checksum", "()J"⟩
abbrev cX8_isFrame : ByteArray := prog_1_method_46_code
def yX8_isFrame : MethodName := ⟨RX8, "isFrame", "(I)Z"⟩
abbrev cX8_canArrive : ByteArray := prog_1_method_47_code
def yX8_canArrive : MethodName := ⟨RX8, "canArrive", "(I)Z"⟩
abbrev cX8_commonDivisor : ByteArray := prog_1_method_48_code
def yX8_commonDivisor : MethodName := ⟨RX8, "commonDivisor", "(II)I"⟩
def RX9 : String := "PlayoutBufferModel"
def TX9 : u_T := fun k => match k with
  | 0 => ("PlayoutBufferModel", "v", "[I", true)
  | 1 => ("PlayoutBufferModel", "spare", "[I", true)
  | 2 => ("PlayoutBufferModel", "kept", "[I", true)
  | 3 => ("PlayoutBufferModel", "isKept", "[Z", true)
  | 4 => ("PlayoutBufferModel", "text", "[I", true)
  | 5 => ("PlayoutBufferModel", "length", "I", false)
  | 6 => ("PlayoutBufferModel", "sorted", "[I", true)
  | 7 => ("PlayoutBufferModel", "x", "[I", true)
  | 8 => ("PlayoutBufferModel", "told", "[I", true)
  | 9 => ("PlayoutBufferModel", "tellings", "I", false)
  | _ => ("PlayoutBufferModel", "place", "I", false)
def tyX9 : Nat → FieldType := fun k => match k with
  | 0 => .array .int
  | 1 => .array .int
  | 2 => .array .int
  | 3 => .array .boolean
  | 4 => .array .int
  | 5 => .int
  | 6 => .array .int
  | 7 => .array .int
  | 8 => .array .int
  | 9 => .int
  | _ => .int
abbrev wsX90 : List Cond := u_ws RX9 TX9 11
theorem nmX9 : ∀ a, a < 11 → ∀ b, b < 11 → a ≠ b → (TX9 a).2.1 ≠ (TX9 b).2.1 := by decide +kernel
theorem tyX9_ok : ∀ k, k < 11 → parseFieldDescriptor (TX9 k).2.2.1 = some (tyX9 k) := by decide +kernel
abbrev cX9_init : ByteArray := prog_11_method_1_code
def yX9_init : MethodName := ⟨RX9, "<init>", "()V"⟩
abbrev cX9_in : ByteArray := prog_11_method_3_code
def yX9_in : MethodName := ⟨RX9, "in", "(III)Z"⟩
abbrev cX9_size : ByteArray := prog_11_method_4_code
def yX9_size : MethodName := ⟨RX9, "size", "(I)I"⟩
abbrev cX9_put : ByteArray := prog_11_method_5_code
def yX9_put : MethodName := ⟨RX9, "put", "(II)I"⟩
abbrev cX9_isBegun : ByteArray := prog_11_method_6_code
def yX9_isBegun : MethodName := ⟨RX9, "isBegun", "()Z"⟩
abbrev cX9_setFrame : ByteArray := prog_11_method_7_code
def yX9_setFrame : MethodName := ⟨RX9, "setFrame", "(I)I"⟩
abbrev cX9_setWave : ByteArray := prog_11_method_8_code
def yX9_setWave : MethodName := ⟨RX9, "setWave", "(II)I"⟩
abbrev cX9_setBlock : ByteArray := prog_11_method_9_code
def yX9_setBlock : MethodName := ⟨RX9, "setBlock", "(II)I"⟩
abbrev cX9_setInitialDelay : ByteArray := prog_11_method_10_code
def yX9_setInitialDelay : MethodName := ⟨RX9, "setInitialDelay", "(I)I"⟩
abbrev cX9_setQuantile : ByteArray := prog_11_method_11_code
def yX9_setQuantile : MethodName := ⟨RX9, "setQuantile", "(I)I"⟩
abbrev cX9_setMargin : ByteArray := prog_11_method_12_code
def yX9_setMargin : MethodName := ⟨RX9, "setMargin", "(I)I"⟩
abbrev cX9_setAdapting : ByteArray := prog_11_method_13_code
def yX9_setAdapting : MethodName := ⟨RX9, "setAdapting", "(Z)I"⟩
abbrev cX9_isFrame : ByteArray := prog_11_method_14_code
def yX9_isFrame : MethodName := ⟨RX9, "isFrame", "(I)Z"⟩
abbrev cX9_area : ByteArray := prog_11_method_15_code
def yX9_area : MethodName := ⟨RX9, "area", "()I"⟩
abbrev cX9_isPacket : ByteArray := prog_11_method_16_code
def yX9_isPacket : MethodName := ⟨RX9, "isPacket", "(ZII)Z"⟩
abbrev cX9_packet : ByteArray := prog_11_method_17_code
def yX9_packet : MethodName := ⟨RX9, "packet", "(ZII)I"⟩
abbrev cX9_covers : ByteArray := prog_11_method_18_code
def yX9_covers : MethodName := ⟨RX9, "covers", "(Z)I"⟩
abbrev cX9_covered : ByteArray := prog_11_method_19_code
def yX9_covered : MethodName := ⟨RX9, "covered", "(ZIII)I"⟩
abbrev cX9_isKnown : ByteArray := prog_11_method_20_code
def yX9_isKnown : MethodName := ⟨RX9, "isKnown", "(I)Z"⟩
abbrev cX9_missingOf : ByteArray := prog_11_method_21_code
def yX9_missingOf : MethodName := ⟨RX9, "missingOf", "(ZII)I"⟩
abbrev cX9_restoresBy : ByteArray := prog_11_method_22_code
def yX9_restoresBy : MethodName := ⟨RX9, "restoresBy", "(ZII)I"⟩
abbrev cX9_restores : ByteArray := prog_11_method_23_code
def yX9_restores : MethodName := ⟨RX9, "restores", "(IZ)I"⟩
abbrev cX9_sampleOf : ByteArray := prog_11_method_24_code
def yX9_sampleOf : MethodName := ⟨RX9, "sampleOf", "(II)I"⟩
abbrev cX9_begins : ByteArray := prog_11_method_25_code
def yX9_begins : MethodName := ⟨RX9, "begins", "()V"⟩
abbrev cX9_sees : ByteArray := prog_11_method_26_code
def yX9_sees : MethodName := ⟨RX9, "sees", "(I)V"⟩
abbrev cX9_arrives : ByteArray := prog_11_method_27_code
def yX9_arrives : MethodName := ⟨RX9, "arrives", "(I)I"⟩
abbrev cX9_arrivesParity : ByteArray := prog_11_method_28_code
def yX9_arrivesParity : MethodName := ⟨RX9, "arrivesParity", "(ZII)I"⟩
abbrev cX9_arrive : ByteArray := prog_11_method_29_code
def yX9_arrive : MethodName := ⟨RX9, "arrive", "(I)I"⟩
abbrev cX9_arriveParity : ByteArray := prog_11_method_30_code
def yX9_arriveParity : MethodName := ⟨RX9, "arriveParity", "(ZII)I"⟩
abbrev cX9_arrivesBySchedule : ByteArray := prog_11_method_31_code
def yX9_arrivesBySchedule : MethodName := ⟨RX9, "arrivesBySchedule", "()V"⟩
abbrev cX9_sorts : ByteArray := prog_11_method_32_code
def yX9_sorts : MethodName := ⟨RX9, "sorts", "()V"⟩
abbrev cX9_targetNow : ByteArray := prog_11_method_33_code
def yX9_targetNow : MethodName := ⟨RX9, "targetNow", "()I"⟩
abbrev cX9_levelFrom : ByteArray := prog_11_method_34_code
def yX9_levelFrom : MethodName := ⟨RX9, "levelFrom", "(I)I"⟩
abbrev cX9_mixed : ByteArray := prog_11_method_35_code
def yX9_mixed : MethodName := ⟨RX9, "mixed", "(IIII)I"⟩
abbrev cX9_gives : ByteArray := prog_11_method_36_code
def yX9_gives : MethodName := ⟨RX9, "gives", "(I)V"⟩
abbrev cX9_lagOfFrame : ByteArray := prog_11_method_37_code
def yX9_lagOfFrame : MethodName := ⟨RX9, "lagOfFrame", "()I"⟩
abbrev cX9_fits : ByteArray := prog_11_method_38_code
def yX9_fits : MethodName := ⟨RX9, "fits", "(I)V"⟩
abbrev cX9_old : ByteArray := prog_11_method_39_code
def yX9_old : MethodName := ⟨RX9, "old", "(I)I"⟩
abbrev cX9_lagOfHistory : ByteArray := prog_11_method_40_code
def yX9_lagOfHistory : MethodName := ⟨RX9, "lagOfHistory", "()I"⟩
abbrev cX9_conceals : ByteArray := prog_11_method_41_code
def yX9_conceals : MethodName := ⟨RX9, "conceals", "()V"⟩
abbrev cX9_takes : ByteArray := prog_11_method_42_code
def yX9_takes : MethodName := ⟨RX9, "takes", "()V"⟩
abbrev cX9_tick : ByteArray := prog_11_method_43_code
def yX9_tick : MethodName := ⟨RX9, "tick", "()I"⟩
abbrev cX9_advance : ByteArray := prog_11_method_44_code
def yX9_advance : MethodName := ⟨RX9, "advance", "(I)I"⟩
abbrev cX9_time : ByteArray := prog_11_method_45_code
def yX9_time : MethodName := ⟨RX9, "time", "()I"⟩
abbrev cX9_start : ByteArray := prog_11_method_46_code
def yX9_start : MethodName := ⟨RX9, "start", "()I"⟩
abbrev cX9_output : ByteArray := prog_11_method_47_code
def yX9_output : MethodName := ⟨RX9, "output", "(I)I"⟩
abbrev cX9_outputs : ByteArray := prog_11_method_48_code
def yX9_outputs : MethodName := ⟨RX9, "outputs", "()I"⟩
abbrev cX9_left : ByteArray := prog_11_method_49_code
def yX9_left : MethodName := ⟨RX9, "left", "()I"⟩
abbrev cX9_next : ByteArray := prog_11_method_50_code
def yX9_next : MethodName := ⟨RX9, "next", "()I"⟩
abbrev cX9_kind : ByteArray := prog_11_method_51_code
def yX9_kind : MethodName := ⟨RX9, "kind", "(I)I"⟩
abbrev cX9_state : ByteArray := prog_11_method_52_code
def yX9_state : MethodName := ⟨RX9, "state", "(I)I"⟩
abbrev cX9_sample : ByteArray := prog_11_method_53_code
def yX9_sample : MethodName := ⟨RX9, "sample", "(II)I"⟩
abbrev cX9_missing : ByteArray := prog_11_method_54_code
def yX9_missing : MethodName := ⟨RX9, "missing", "(ZII)I"⟩
abbrev cX9_unrestorable : ByteArray := prog_11_method_55_code
def yX9_unrestorable : MethodName := ⟨RX9, "unrestorable", "(I)I"⟩
abbrev cX9_paritySample : ByteArray := prog_11_method_56_code
def yX9_paritySample : MethodName := ⟨RX9, "paritySample", "(ZIII)I"⟩
abbrev cX9_transits : ByteArray := prog_11_method_57_code
def yX9_transits : MethodName := ⟨RX9, "transits", "()I"⟩
abbrev cX9_transit : ByteArray := prog_11_method_58_code
def yX9_transit : MethodName := ⟨RX9, "transit", "(I)I"⟩
abbrev cX9_target : ByteArray := prog_11_method_59_code
def yX9_target : MethodName := ⟨RX9, "target", "()I"⟩
abbrev cX9_level : ByteArray := prog_11_method_60_code
def yX9_level : MethodName := ⟨RX9, "level", "()I"⟩
abbrev cX9_taken : ByteArray := prog_11_method_61_code
def yX9_taken : MethodName := ⟨RX9, "taken", "(I)I"⟩
abbrev cX9_stretched : ByteArray := prog_11_method_62_code
def yX9_stretched : MethodName := ⟨RX9, "stretched", "()I"⟩
abbrev cX9_compressed : ByteArray := prog_11_method_63_code
def yX9_compressed : MethodName := ⟨RX9, "compressed", "()I"⟩
abbrev cX9_late : ByteArray := prog_11_method_64_code
def yX9_late : MethodName := ⟨RX9, "late", "()I"⟩
abbrev cX9_duplicates : ByteArray := prog_11_method_65_code
def yX9_duplicates : MethodName := ⟨RX9, "duplicates", "()I"⟩
abbrev cX9_loss : ByteArray := prog_11_method_66_code
def yX9_loss : MethodName := ⟨RX9, "loss", "(Z)I"⟩
abbrev cX9_longestGap : ByteArray := prog_11_method_67_code
def yX9_longestGap : MethodName := ⟨RX9, "longestGap", "()I"⟩
abbrev cX9_keeps : ByteArray := prog_11_method_68_code
def yX9_keeps : MethodName := ⟨RX9, "keeps", "()V"⟩
abbrev cX9_brings : ByteArray := prog_11_method_69_code
def yX9_brings : MethodName := ⟨RX9, "brings", "()V"⟩
abbrev cX9_ticksToGap : ByteArray := prog_11_method_70_code
def yX9_ticksToGap : MethodName := ⟨RX9, "ticksToGap", "()I"⟩
abbrev cX9_gapsIn : ByteArray := prog_11_method_71_code
def yX9_gapsIn : MethodName := ⟨RX9, "gapsIn", "(I)I"⟩
abbrev cX9_ticksToFrame : ByteArray := prog_11_method_72_code
def yX9_ticksToFrame : MethodName := ⟨RX9, "ticksToFrame", "(I)I"⟩
abbrev cX9_append : ByteArray := prog_11_method_73_code
def yX9_append : MethodName := ⟨RX9, "append", "(I)I"⟩
abbrev cX9_clearText : ByteArray := prog_11_method_74_code
def yX9_clearText : MethodName := ⟨RX9, "clearText", "()I"⟩
abbrev cX9_here : ByteArray := prog_11_method_75_code
def yX9_here : MethodName := ⟨RX9, "here", "()I"⟩
abbrev cX9_takes_ : ByteArray := prog_11_method_76_code
def yX9_takes_ : MethodName := ⟨RX9, "takes", "(I)Z"⟩
abbrev cX9_number : ByteArray := prog_11_method_77_code
def yX9_number : MethodName := ⟨RX9, "number", "()I"⟩
abbrev cX9_isEntry : ByteArray := prog_11_method_78_code
def yX9_isEntry : MethodName := ⟨RX9, "isEntry", "()Z"⟩
abbrev cX9_isText : ByteArray := prog_11_method_79_code
def yX9_isText : MethodName := ⟨RX9, "isText", "()Z"⟩
abbrev cX9_faultPosition : ByteArray := prog_11_method_80_code
def yX9_faultPosition : MethodName := ⟨RX9, "faultPosition", "()I"⟩
abbrev cX9_isArrival : ByteArray := prog_11_method_81_code
def yX9_isArrival : MethodName := ⟨RX9, "isArrival", "(I)Z"⟩
abbrev cX9_schedule : ByteArray := prog_11_method_82_code
def yX9_schedule : MethodName := ⟨RX9, "schedule", "()I"⟩
abbrev cX9_scheduled : ByteArray := prog_11_method_83_code
def yX9_scheduled : MethodName := ⟨RX9, "scheduled", "()I"⟩
abbrev cX9_keep : ByteArray := prog_11_method_84_code
def yX9_keep : MethodName := ⟨RX9, "keep", "(I)I"⟩
abbrev cX9_restore : ByteArray := prog_11_method_85_code
def yX9_restore : MethodName := ⟨RX9, "restore", "(I)I"⟩
abbrev cX9_more : ByteArray := prog_11_method_86_code
def yX9_more : MethodName := ⟨RX9, "more", "(JI)J"⟩
abbrev cX9_checksum : ByteArray := prog_11_method_87_code
def yX9_checksum : MethodName := ⟨RX9, "checksum", "()J"⟩
def RJ13 : String := "java/lang/Long"
def TJ13 : u_T := fun k => match k with
  | _ => ("", "", "", false)
def tyJ13 : Nat → FieldType := fun k => match k with
  | _ => .int
abbrev cJ13_bitCount_95d88 : ByteArray := prog_12_method_50_code
def yJ13_bitCount_95d88 : MethodName := ⟨RJ13, "bitCount", "(J)I"⟩
def RJ9 : String := "java/lang/Math"
def TJ9 : u_T := fun k => match k with
  | _ => ("", "", "", false)
def tyJ9 : Nat → FieldType := fun k => match k with
  | _ => .int
abbrev cJ9_abs_0f7a4 : ByteArray := prog_13_method_59_code
def yJ9_abs_0f7a4 : MethodName := ⟨RJ9, "abs", "(I)I"⟩
abbrev cJ9_max_7cf53 : ByteArray := prog_13_method_65_code
def yJ9_max_7cf53 : MethodName := ⟨RJ9, "max", "(II)I"⟩
abbrev cJ9_min_7cf53 : ByteArray := prog_13_method_69_code
def yJ9_min_7cf53 : MethodName := ⟨RJ9, "min", "(II)I"⟩
def RJ10 : String := "java/lang/System"
def TJ10 : u_T := fun k => match k with
  | _ => ("", "", "", false)
def tyJ10 : Nat → FieldType := fun k => match k with
  | _ => .int
def RL : String := "PlayoutBufferLaw"
abbrev cL_law : ByteArray := code
def yL_law : MethodName := ⟨RL, "law", "([I)Z"⟩
abbrev vwCl : List vw_C := [(RX0, TX0, 8), (RX1, TX1, 5), (RX2, TX2, 9), (RX3, TX3, 3), (RX4, TX4, 8), (RX5, TX5, 9), (RX6, TX6, 9), (RX7, TX7, 4), (RX8, TX8, 5), (RX9, TX9, 11)]
