section
-- ===== PART A: goes FIRST, ahead of the names: the tables' words, and 'selects' of the private methods out of them =====
def lw_okq (q : MethodName × Nat) : Prop := (q.1.cls ≠ "java/lang/invoke/MethodHandle" ∧ q.1.cls ≠ "java/lang/invoke/VarHandle") ∧ Cond.instantiable q.1.cls q.2 ∈ tables_1 ∧ Cond.privateMethod q.1 ∈ tables_1 ∧ Cond.instanceMethod q.1 ∈ tables_1
theorem lw_p0 : lw_okq (⟨"PlayoutBuffer$Receiver", "startOnce", "()V"⟩, 9) := ⟨⟨by decide +kernel, by decide +kernel⟩, List.mem_of_getElem? (i := 23) (by decide +kernel), List.mem_of_getElem? (i := 369) (by decide +kernel), List.mem_of_getElem? (i := 370) (by decide +kernel)⟩
theorem lw_p1 : lw_okq (⟨"PlayoutBuffer$Transits", "insert", "(II)V"⟩, 4) := ⟨⟨by decide +kernel, by decide +kernel⟩, List.mem_of_getElem? (i := 98) (by decide +kernel), List.mem_of_getElem? (i := 380) (by decide +kernel), List.mem_of_getElem? (i := 381) (by decide +kernel)⟩
theorem lw_p2 : lw_okq (⟨"PlayoutBuffer$Frames", "knownIn", "(LPlayoutBuffer$Settings;I)J"⟩, 3) := ⟨⟨by decide +kernel, by decide +kernel⟩, List.mem_of_getElem? (i := 80) (by decide +kernel), List.mem_of_getElem? (i := 393) (by decide +kernel), List.mem_of_getElem? (i := 394) (by decide +kernel)⟩
theorem lw_p3 : lw_okq (⟨"PlayoutBuffer$Receiver", "acceptDue", "()V"⟩, 9) := ⟨⟨by decide +kernel, by decide +kernel⟩, List.mem_of_getElem? (i := 23) (by decide +kernel), List.mem_of_getElem? (i := 449) (by decide +kernel), List.mem_of_getElem? (i := 450) (by decide +kernel)⟩
theorem lw_p4 : lw_okq (⟨"PlayoutBuffer$Receiver", "takeFrame", "(I)V"⟩, 9) := ⟨⟨by decide +kernel, by decide +kernel⟩, List.mem_of_getElem? (i := 23) (by decide +kernel), List.mem_of_getElem? (i := 467) (by decide +kernel), List.mem_of_getElem? (i := 468) (by decide +kernel)⟩
theorem lw_p5 : lw_okq (⟨"PlayoutBuffer$Player", "bestLag", "(IZ)I"⟩, 8) := ⟨⟨by decide +kernel, by decide +kernel⟩, List.mem_of_getElem? (i := 118) (by decide +kernel), List.mem_of_getElem? (i := 491) (by decide +kernel), List.mem_of_getElem? (i := 492) (by decide +kernel)⟩
theorem lw_p6 : lw_okq (⟨"PlayoutBuffer$Player", "differences", "(I)I"⟩, 8) := ⟨⟨by decide +kernel, by decide +kernel⟩, List.mem_of_getElem? (i := 118) (by decide +kernel), List.mem_of_getElem? (i := 495) (by decide +kernel), List.mem_of_getElem? (i := 496) (by decide +kernel)⟩
theorem lw_p7 : lw_okq (⟨"PlayoutBuffer$Player", "put", "(I)V"⟩, 8) := ⟨⟨by decide +kernel, by decide +kernel⟩, List.mem_of_getElem? (i := 118) (by decide +kernel), List.mem_of_getElem? (i := 505) (by decide +kernel), List.mem_of_getElem? (i := 506) (by decide +kernel)⟩
theorem lw_p8 : lw_okq (⟨"PlayoutBuffer$Receiver", "putKnown", "(I)V"⟩, 9) := ⟨⟨by decide +kernel, by decide +kernel⟩, List.mem_of_getElem? (i := 23) (by decide +kernel), List.mem_of_getElem? (i := 513) (by decide +kernel), List.mem_of_getElem? (i := 514) (by decide +kernel)⟩
theorem lw_p9 : lw_okq (⟨"PlayoutBuffer$Player", "putSource", "(II)V"⟩, 8) := ⟨⟨by decide +kernel, by decide +kernel⟩, List.mem_of_getElem? (i := 118) (by decide +kernel), List.mem_of_getElem? (i := 546) (by decide +kernel), List.mem_of_getElem? (i := 547) (by decide +kernel)⟩
theorem lw_p10 : lw_okq (⟨"PlayoutBuffer$ArrivalText", "follows", "(ILPlayoutBuffer$Arrivals;)Z"⟩, 8) := ⟨⟨by decide +kernel, by decide +kernel⟩, List.mem_of_getElem? (i := 268) (by decide +kernel), List.mem_of_getElem? (i := 758) (by decide +kernel), List.mem_of_getElem? (i := 759) (by decide +kernel)⟩
theorem lw_p11 : lw_okq (⟨"PlayoutBuffer$ArrivalText", "beginsEntry", "(I)Z"⟩, 8) := ⟨⟨by decide +kernel, by decide +kernel⟩, List.mem_of_getElem? (i := 268) (by decide +kernel), List.mem_of_getElem? (i := 762) (by decide +kernel), List.mem_of_getElem? (i := 763) (by decide +kernel)⟩
theorem lw_p12 : lw_okq (⟨"PlayoutBuffer$ArrivalText", "expect", "(I)V"⟩, 8) := ⟨⟨by decide +kernel, by decide +kernel⟩, List.mem_of_getElem? (i := 268) (by decide +kernel), List.mem_of_getElem? (i := 766) (by decide +kernel), List.mem_of_getElem? (i := 767) (by decide +kernel)⟩
theorem lw_p13 : lw_okq (⟨"PlayoutBuffer$ArrivalText", "endOfNumber", "()I"⟩, 8) := ⟨⟨by decide +kernel, by decide +kernel⟩, List.mem_of_getElem? (i := 268) (by decide +kernel), List.mem_of_getElem? (i := 770) (by decide +kernel), List.mem_of_getElem? (i := 771) (by decide +kernel)⟩
theorem lw_p14 : lw_okq (⟨"PlayoutBuffer$ArrivalText", "endNumber", "(LPlayoutBuffer$Arrivals;)V"⟩, 8) := ⟨⟨by decide +kernel, by decide +kernel⟩, List.mem_of_getElem? (i := 268) (by decide +kernel), List.mem_of_getElem? (i := 774) (by decide +kernel), List.mem_of_getElem? (i := 775) (by decide +kernel)⟩
theorem lw_p15 : lw_okq (⟨"PlayoutBuffer", "canArrive", "(I)Z"⟩, 5) := ⟨⟨by decide +kernel, by decide +kernel⟩, List.mem_of_getElem? (i := 15) (by decide +kernel), List.mem_of_getElem? (i := 783) (by decide +kernel), List.mem_of_getElem? (i := 784) (by decide +kernel)⟩
def lw_privs_1 : List (MethodName × Nat) := [(⟨"PlayoutBuffer$Receiver", "startOnce", "()V"⟩, 9), (⟨"PlayoutBuffer$Transits", "insert", "(II)V"⟩, 4), (⟨"PlayoutBuffer$Frames", "knownIn", "(LPlayoutBuffer$Settings;I)J"⟩, 3), (⟨"PlayoutBuffer$Receiver", "acceptDue", "()V"⟩, 9), (⟨"PlayoutBuffer$Receiver", "takeFrame", "(I)V"⟩, 9), (⟨"PlayoutBuffer$Player", "bestLag", "(IZ)I"⟩, 8), (⟨"PlayoutBuffer$Player", "differences", "(I)I"⟩, 8), (⟨"PlayoutBuffer$Player", "put", "(I)V"⟩, 8), (⟨"PlayoutBuffer$Receiver", "putKnown", "(I)V"⟩, 9), (⟨"PlayoutBuffer$Player", "putSource", "(II)V"⟩, 8), (⟨"PlayoutBuffer$ArrivalText", "follows", "(ILPlayoutBuffer$Arrivals;)Z"⟩, 8), (⟨"PlayoutBuffer$ArrivalText", "beginsEntry", "(I)Z"⟩, 8), (⟨"PlayoutBuffer$ArrivalText", "expect", "(I)V"⟩, 8), (⟨"PlayoutBuffer$ArrivalText", "endOfNumber", "()I"⟩, 8), (⟨"PlayoutBuffer$ArrivalText", "endNumber", "(LPlayoutBuffer$Arrivals;)V"⟩, 8), (⟨"PlayoutBuffer", "canArrive", "(I)Z"⟩, 5)]
theorem lw_r1 : ∀ q ∈ lw_privs_1, lw_okq q := List.forall_mem_cons.mpr ⟨lw_p0, List.forall_mem_cons.mpr ⟨lw_p1, List.forall_mem_cons.mpr ⟨lw_p2, List.forall_mem_cons.mpr ⟨lw_p3, List.forall_mem_cons.mpr ⟨lw_p4, List.forall_mem_cons.mpr ⟨lw_p5, List.forall_mem_cons.mpr ⟨lw_p6, List.forall_mem_cons.mpr ⟨lw_p7, List.forall_mem_cons.mpr ⟨lw_p8, List.forall_mem_cons.mpr ⟨lw_p9, List.forall_mem_cons.mpr ⟨lw_p10, List.forall_mem_cons.mpr ⟨lw_p11, List.forall_mem_cons.mpr ⟨lw_p12, List.forall_mem_cons.mpr ⟨lw_p13, List.forall_mem_cons.mpr ⟨lw_p14, List.forall_mem_cons.mpr ⟨lw_p15, fun _ h => absurd h List.not_mem_nil⟩⟩⟩⟩⟩⟩⟩⟩⟩⟩⟩⟩⟩⟩⟩⟩
theorem lw_p16 : lw_okq (⟨"PlayoutBufferModel", "isBegun", "()Z"⟩, 11) := ⟨⟨by decide +kernel, by decide +kernel⟩, List.mem_of_getElem? (i := 824) (by decide +kernel), List.mem_of_getElem? (i := 872) (by decide +kernel), List.mem_of_getElem? (i := 873) (by decide +kernel)⟩
theorem lw_p17 : lw_okq (⟨"PlayoutBufferModel", "put", "(II)I"⟩, 11) := ⟨⟨by decide +kernel, by decide +kernel⟩, List.mem_of_getElem? (i := 824) (by decide +kernel), List.mem_of_getElem? (i := 876) (by decide +kernel), List.mem_of_getElem? (i := 877) (by decide +kernel)⟩
theorem lw_p18 : lw_okq (⟨"PlayoutBufferModel", "arrives", "(I)I"⟩, 11) := ⟨⟨by decide +kernel, by decide +kernel⟩, List.mem_of_getElem? (i := 824) (by decide +kernel), List.mem_of_getElem? (i := 911) (by decide +kernel), List.mem_of_getElem? (i := 912) (by decide +kernel)⟩
theorem lw_p19 : lw_okq (⟨"PlayoutBufferModel", "isKnown", "(I)Z"⟩, 11) := ⟨⟨by decide +kernel, by decide +kernel⟩, List.mem_of_getElem? (i := 824) (by decide +kernel), List.mem_of_getElem? (i := 915) (by decide +kernel), List.mem_of_getElem? (i := 916) (by decide +kernel)⟩
theorem lw_p20 : lw_okq (⟨"PlayoutBufferModel", "begins", "()V"⟩, 11) := ⟨⟨by decide +kernel, by decide +kernel⟩, List.mem_of_getElem? (i := 824) (by decide +kernel), List.mem_of_getElem? (i := 919) (by decide +kernel), List.mem_of_getElem? (i := 920) (by decide +kernel)⟩
theorem lw_p21 : lw_okq (⟨"PlayoutBufferModel", "sees", "(I)V"⟩, 11) := ⟨⟨by decide +kernel, by decide +kernel⟩, List.mem_of_getElem? (i := 824) (by decide +kernel), List.mem_of_getElem? (i := 923) (by decide +kernel), List.mem_of_getElem? (i := 924) (by decide +kernel)⟩
theorem lw_p22 : lw_okq (⟨"PlayoutBufferModel", "area", "()I"⟩, 11) := ⟨⟨by decide +kernel, by decide +kernel⟩, List.mem_of_getElem? (i := 824) (by decide +kernel), List.mem_of_getElem? (i := 927) (by decide +kernel), List.mem_of_getElem? (i := 928) (by decide +kernel)⟩
theorem lw_p23 : lw_okq (⟨"PlayoutBufferModel", "restores", "(IZ)I"⟩, 11) := ⟨⟨by decide +kernel, by decide +kernel⟩, List.mem_of_getElem? (i := 824) (by decide +kernel), List.mem_of_getElem? (i := 931) (by decide +kernel), List.mem_of_getElem? (i := 932) (by decide +kernel)⟩
theorem lw_p24 : lw_okq (⟨"PlayoutBufferModel", "packet", "(ZII)I"⟩, 11) := ⟨⟨by decide +kernel, by decide +kernel⟩, List.mem_of_getElem? (i := 824) (by decide +kernel), List.mem_of_getElem? (i := 935) (by decide +kernel), List.mem_of_getElem? (i := 936) (by decide +kernel)⟩
theorem lw_p25 : lw_okq (⟨"PlayoutBufferModel", "restoresBy", "(ZII)I"⟩, 11) := ⟨⟨by decide +kernel, by decide +kernel⟩, List.mem_of_getElem? (i := 824) (by decide +kernel), List.mem_of_getElem? (i := 939) (by decide +kernel), List.mem_of_getElem? (i := 940) (by decide +kernel)⟩
theorem lw_p26 : lw_okq (⟨"PlayoutBufferModel", "missingOf", "(ZII)I"⟩, 11) := ⟨⟨by decide +kernel, by decide +kernel⟩, List.mem_of_getElem? (i := 824) (by decide +kernel), List.mem_of_getElem? (i := 943) (by decide +kernel), List.mem_of_getElem? (i := 944) (by decide +kernel)⟩
theorem lw_p27 : lw_okq (⟨"PlayoutBufferModel", "covers", "(Z)I"⟩, 11) := ⟨⟨by decide +kernel, by decide +kernel⟩, List.mem_of_getElem? (i := 824) (by decide +kernel), List.mem_of_getElem? (i := 947) (by decide +kernel), List.mem_of_getElem? (i := 948) (by decide +kernel)⟩
theorem lw_p28 : lw_okq (⟨"PlayoutBufferModel", "covered", "(ZIII)I"⟩, 11) := ⟨⟨by decide +kernel, by decide +kernel⟩, List.mem_of_getElem? (i := 824) (by decide +kernel), List.mem_of_getElem? (i := 951) (by decide +kernel), List.mem_of_getElem? (i := 952) (by decide +kernel)⟩
theorem lw_p29 : lw_okq (⟨"PlayoutBufferModel", "isPacket", "(ZII)Z"⟩, 11) := ⟨⟨by decide +kernel, by decide +kernel⟩, List.mem_of_getElem? (i := 824) (by decide +kernel), List.mem_of_getElem? (i := 959) (by decide +kernel), List.mem_of_getElem? (i := 960) (by decide +kernel)⟩
theorem lw_p30 : lw_okq (⟨"PlayoutBufferModel", "arrivesParity", "(ZII)I"⟩, 11) := ⟨⟨by decide +kernel, by decide +kernel⟩, List.mem_of_getElem? (i := 824) (by decide +kernel), List.mem_of_getElem? (i := 963) (by decide +kernel), List.mem_of_getElem? (i := 964) (by decide +kernel)⟩
theorem lw_p31 : lw_okq (⟨"PlayoutBufferModel", "tick", "()I"⟩, 11) := ⟨⟨by decide +kernel, by decide +kernel⟩, List.mem_of_getElem? (i := 824) (by decide +kernel), List.mem_of_getElem? (i := 971) (by decide +kernel), List.mem_of_getElem? (i := 972) (by decide +kernel)⟩
def lw_privs_2 : List (MethodName × Nat) := [(⟨"PlayoutBufferModel", "isBegun", "()Z"⟩, 11), (⟨"PlayoutBufferModel", "put", "(II)I"⟩, 11), (⟨"PlayoutBufferModel", "arrives", "(I)I"⟩, 11), (⟨"PlayoutBufferModel", "isKnown", "(I)Z"⟩, 11), (⟨"PlayoutBufferModel", "begins", "()V"⟩, 11), (⟨"PlayoutBufferModel", "sees", "(I)V"⟩, 11), (⟨"PlayoutBufferModel", "area", "()I"⟩, 11), (⟨"PlayoutBufferModel", "restores", "(IZ)I"⟩, 11), (⟨"PlayoutBufferModel", "packet", "(ZII)I"⟩, 11), (⟨"PlayoutBufferModel", "restoresBy", "(ZII)I"⟩, 11), (⟨"PlayoutBufferModel", "missingOf", "(ZII)I"⟩, 11), (⟨"PlayoutBufferModel", "covers", "(Z)I"⟩, 11), (⟨"PlayoutBufferModel", "covered", "(ZIII)I"⟩, 11), (⟨"PlayoutBufferModel", "isPacket", "(ZII)Z"⟩, 11), (⟨"PlayoutBufferModel", "arrivesParity", "(ZII)I"⟩, 11), (⟨"PlayoutBufferModel", "tick", "()I"⟩, 11)]
theorem lw_r2 : ∀ q ∈ lw_privs_2, lw_okq q := List.forall_mem_cons.mpr ⟨lw_p16, List.forall_mem_cons.mpr ⟨lw_p17, List.forall_mem_cons.mpr ⟨lw_p18, List.forall_mem_cons.mpr ⟨lw_p19, List.forall_mem_cons.mpr ⟨lw_p20, List.forall_mem_cons.mpr ⟨lw_p21, List.forall_mem_cons.mpr ⟨lw_p22, List.forall_mem_cons.mpr ⟨lw_p23, List.forall_mem_cons.mpr ⟨lw_p24, List.forall_mem_cons.mpr ⟨lw_p25, List.forall_mem_cons.mpr ⟨lw_p26, List.forall_mem_cons.mpr ⟨lw_p27, List.forall_mem_cons.mpr ⟨lw_p28, List.forall_mem_cons.mpr ⟨lw_p29, List.forall_mem_cons.mpr ⟨lw_p30, List.forall_mem_cons.mpr ⟨lw_p31, fun _ h => absurd h List.not_mem_nil⟩⟩⟩⟩⟩⟩⟩⟩⟩⟩⟩⟩⟩⟩⟩⟩
theorem lw_p32 : lw_okq (⟨"PlayoutBufferModel", "arrivesBySchedule", "()V"⟩, 11) := ⟨⟨by decide +kernel, by decide +kernel⟩, List.mem_of_getElem? (i := 824) (by decide +kernel), List.mem_of_getElem? (i := 975) (by decide +kernel), List.mem_of_getElem? (i := 976) (by decide +kernel)⟩
theorem lw_p33 : lw_okq (⟨"PlayoutBufferModel", "takes", "()V"⟩, 11) := ⟨⟨by decide +kernel, by decide +kernel⟩, List.mem_of_getElem? (i := 824) (by decide +kernel), List.mem_of_getElem? (i := 979) (by decide +kernel), List.mem_of_getElem? (i := 980) (by decide +kernel)⟩
theorem lw_p34 : lw_okq (⟨"PlayoutBufferModel", "conceals", "()V"⟩, 11) := ⟨⟨by decide +kernel, by decide +kernel⟩, List.mem_of_getElem? (i := 824) (by decide +kernel), List.mem_of_getElem? (i := 983) (by decide +kernel), List.mem_of_getElem? (i := 984) (by decide +kernel)⟩
theorem lw_p35 : lw_okq (⟨"PlayoutBufferModel", "lagOfHistory", "()I"⟩, 11) := ⟨⟨by decide +kernel, by decide +kernel⟩, List.mem_of_getElem? (i := 824) (by decide +kernel), List.mem_of_getElem? (i := 987) (by decide +kernel), List.mem_of_getElem? (i := 988) (by decide +kernel)⟩
theorem lw_p36 : lw_okq (⟨"PlayoutBufferModel", "old", "(I)I"⟩, 11) := ⟨⟨by decide +kernel, by decide +kernel⟩, List.mem_of_getElem? (i := 824) (by decide +kernel), List.mem_of_getElem? (i := 991) (by decide +kernel), List.mem_of_getElem? (i := 992) (by decide +kernel)⟩
theorem lw_p37 : lw_okq (⟨"PlayoutBufferModel", "gives", "(I)V"⟩, 11) := ⟨⟨by decide +kernel, by decide +kernel⟩, List.mem_of_getElem? (i := 824) (by decide +kernel), List.mem_of_getElem? (i := 998) (by decide +kernel), List.mem_of_getElem? (i := 999) (by decide +kernel)⟩
theorem lw_p38 : lw_okq (⟨"PlayoutBufferModel", "fits", "(I)V"⟩, 11) := ⟨⟨by decide +kernel, by decide +kernel⟩, List.mem_of_getElem? (i := 824) (by decide +kernel), List.mem_of_getElem? (i := 1002) (by decide +kernel), List.mem_of_getElem? (i := 1003) (by decide +kernel)⟩
theorem lw_p39 : lw_okq (⟨"PlayoutBufferModel", "sampleOf", "(II)I"⟩, 11) := ⟨⟨by decide +kernel, by decide +kernel⟩, List.mem_of_getElem? (i := 824) (by decide +kernel), List.mem_of_getElem? (i := 1006) (by decide +kernel), List.mem_of_getElem? (i := 1007) (by decide +kernel)⟩
theorem lw_p40 : lw_okq (⟨"PlayoutBufferModel", "levelFrom", "(I)I"⟩, 11) := ⟨⟨by decide +kernel, by decide +kernel⟩, List.mem_of_getElem? (i := 824) (by decide +kernel), List.mem_of_getElem? (i := 1010) (by decide +kernel), List.mem_of_getElem? (i := 1011) (by decide +kernel)⟩
theorem lw_p41 : lw_okq (⟨"PlayoutBufferModel", "targetNow", "()I"⟩, 11) := ⟨⟨by decide +kernel, by decide +kernel⟩, List.mem_of_getElem? (i := 824) (by decide +kernel), List.mem_of_getElem? (i := 1014) (by decide +kernel), List.mem_of_getElem? (i := 1015) (by decide +kernel)⟩
theorem lw_p42 : lw_okq (⟨"PlayoutBufferModel", "sorts", "()V"⟩, 11) := ⟨⟨by decide +kernel, by decide +kernel⟩, List.mem_of_getElem? (i := 824) (by decide +kernel), List.mem_of_getElem? (i := 1018) (by decide +kernel), List.mem_of_getElem? (i := 1019) (by decide +kernel)⟩
theorem lw_p43 : lw_okq (⟨"PlayoutBufferModel", "lagOfFrame", "()I"⟩, 11) := ⟨⟨by decide +kernel, by decide +kernel⟩, List.mem_of_getElem? (i := 824) (by decide +kernel), List.mem_of_getElem? (i := 1022) (by decide +kernel), List.mem_of_getElem? (i := 1023) (by decide +kernel)⟩
theorem lw_p44 : lw_okq (⟨"PlayoutBufferModel", "keeps", "()V"⟩, 11) := ⟨⟨by decide +kernel, by decide +kernel⟩, List.mem_of_getElem? (i := 824) (by decide +kernel), List.mem_of_getElem? (i := 1073) (by decide +kernel), List.mem_of_getElem? (i := 1074) (by decide +kernel)⟩
theorem lw_p45 : lw_okq (⟨"PlayoutBufferModel", "brings", "()V"⟩, 11) := ⟨⟨by decide +kernel, by decide +kernel⟩, List.mem_of_getElem? (i := 824) (by decide +kernel), List.mem_of_getElem? (i := 1077) (by decide +kernel), List.mem_of_getElem? (i := 1078) (by decide +kernel)⟩
theorem lw_p46 : lw_okq (⟨"PlayoutBufferModel", "isText", "()Z"⟩, 11) := ⟨⟨by decide +kernel, by decide +kernel⟩, List.mem_of_getElem? (i := 824) (by decide +kernel), List.mem_of_getElem? (i := 1153) (by decide +kernel), List.mem_of_getElem? (i := 1154) (by decide +kernel)⟩
theorem lw_p47 : lw_okq (⟨"PlayoutBufferModel", "isEntry", "()Z"⟩, 11) := ⟨⟨by decide +kernel, by decide +kernel⟩, List.mem_of_getElem? (i := 824) (by decide +kernel), List.mem_of_getElem? (i := 1157) (by decide +kernel), List.mem_of_getElem? (i := 1158) (by decide +kernel)⟩
def lw_privs_3 : List (MethodName × Nat) := [(⟨"PlayoutBufferModel", "arrivesBySchedule", "()V"⟩, 11), (⟨"PlayoutBufferModel", "takes", "()V"⟩, 11), (⟨"PlayoutBufferModel", "conceals", "()V"⟩, 11), (⟨"PlayoutBufferModel", "lagOfHistory", "()I"⟩, 11), (⟨"PlayoutBufferModel", "old", "(I)I"⟩, 11), (⟨"PlayoutBufferModel", "gives", "(I)V"⟩, 11), (⟨"PlayoutBufferModel", "fits", "(I)V"⟩, 11), (⟨"PlayoutBufferModel", "sampleOf", "(II)I"⟩, 11), (⟨"PlayoutBufferModel", "levelFrom", "(I)I"⟩, 11), (⟨"PlayoutBufferModel", "targetNow", "()I"⟩, 11), (⟨"PlayoutBufferModel", "sorts", "()V"⟩, 11), (⟨"PlayoutBufferModel", "lagOfFrame", "()I"⟩, 11), (⟨"PlayoutBufferModel", "keeps", "()V"⟩, 11), (⟨"PlayoutBufferModel", "brings", "()V"⟩, 11), (⟨"PlayoutBufferModel", "isText", "()Z"⟩, 11), (⟨"PlayoutBufferModel", "isEntry", "()Z"⟩, 11)]
theorem lw_r3 : ∀ q ∈ lw_privs_3, lw_okq q := List.forall_mem_cons.mpr ⟨lw_p32, List.forall_mem_cons.mpr ⟨lw_p33, List.forall_mem_cons.mpr ⟨lw_p34, List.forall_mem_cons.mpr ⟨lw_p35, List.forall_mem_cons.mpr ⟨lw_p36, List.forall_mem_cons.mpr ⟨lw_p37, List.forall_mem_cons.mpr ⟨lw_p38, List.forall_mem_cons.mpr ⟨lw_p39, List.forall_mem_cons.mpr ⟨lw_p40, List.forall_mem_cons.mpr ⟨lw_p41, List.forall_mem_cons.mpr ⟨lw_p42, List.forall_mem_cons.mpr ⟨lw_p43, List.forall_mem_cons.mpr ⟨lw_p44, List.forall_mem_cons.mpr ⟨lw_p45, List.forall_mem_cons.mpr ⟨lw_p46, List.forall_mem_cons.mpr ⟨lw_p47, fun _ h => absurd h List.not_mem_nil⟩⟩⟩⟩⟩⟩⟩⟩⟩⟩⟩⟩⟩⟩⟩⟩
theorem lw_p48 : lw_okq (⟨"PlayoutBufferModel", "here", "()I"⟩, 11) := ⟨⟨by decide +kernel, by decide +kernel⟩, List.mem_of_getElem? (i := 824) (by decide +kernel), List.mem_of_getElem? (i := 1161) (by decide +kernel), List.mem_of_getElem? (i := 1162) (by decide +kernel)⟩
theorem lw_p49 : lw_okq (⟨"PlayoutBufferModel", "number", "()I"⟩, 11) := ⟨⟨by decide +kernel, by decide +kernel⟩, List.mem_of_getElem? (i := 824) (by decide +kernel), List.mem_of_getElem? (i := 1165) (by decide +kernel), List.mem_of_getElem? (i := 1166) (by decide +kernel)⟩
theorem lw_p50 : lw_okq (⟨"PlayoutBufferModel", "takes", "(I)Z"⟩, 11) := ⟨⟨by decide +kernel, by decide +kernel⟩, List.mem_of_getElem? (i := 824) (by decide +kernel), List.mem_of_getElem? (i := 1169) (by decide +kernel), List.mem_of_getElem? (i := 1170) (by decide +kernel)⟩
theorem lw_p51 : lw_okq (⟨"PlayoutBufferModel", "isArrival", "(I)Z"⟩, 11) := ⟨⟨by decide +kernel, by decide +kernel⟩, List.mem_of_getElem? (i := 824) (by decide +kernel), List.mem_of_getElem? (i := 1177) (by decide +kernel), List.mem_of_getElem? (i := 1178) (by decide +kernel)⟩
def lw_privs_4 : List (MethodName × Nat) := [(⟨"PlayoutBufferModel", "here", "()I"⟩, 11), (⟨"PlayoutBufferModel", "number", "()I"⟩, 11), (⟨"PlayoutBufferModel", "takes", "(I)Z"⟩, 11), (⟨"PlayoutBufferModel", "isArrival", "(I)Z"⟩, 11)]
theorem lw_r4 : ∀ q ∈ lw_privs_4, lw_okq q := List.forall_mem_cons.mpr ⟨lw_p48, List.forall_mem_cons.mpr ⟨lw_p49, List.forall_mem_cons.mpr ⟨lw_p50, List.forall_mem_cons.mpr ⟨lw_p51, fun _ h => absurd h List.not_mem_nil⟩⟩⟩⟩
def lw_privs : List (MethodName × Nat) := lw_privs_1 ++ (lw_privs_2 ++ (lw_privs_3 ++ (lw_privs_4)))
def lw_tbl : List Cond := k2_sels lw_privs ++ tables_1
theorem lw_privs_ok : ∀ q ∈ lw_privs, lw_okq q := by
  show ∀ q ∈ lw_privs_1 ++ (lw_privs_2 ++ (lw_privs_3 ++ (lw_privs_4))), lw_okq q
  exact List.forall_mem_append.mpr ⟨lw_r1, List.forall_mem_append.mpr ⟨lw_r2, List.forall_mem_append.mpr ⟨lw_r3, lw_r4⟩⟩⟩

def RX0 : String := "PlayoutBuffer$ArrivalText"
def TX0 : u_T := fun k => match k with
  | 0 => ("PlayoutBuffer$ArrivalText", "characters", "[I", true)
  | 1 => ("PlayoutBuffer$ArrivalText", "length", "I", false)
  | 2 => ("PlayoutBuffer$ArrivalText", "expected", "I", false)
  | 3 => ("PlayoutBuffer$ArrivalText", "digits", "I", false)
  | 4 => ("PlayoutBuffer$ArrivalText", "value", "I", false)
  | 5 => ("PlayoutBuffer$ArrivalText", "kind", "I", false)
  | 6 => ("PlayoutBuffer$ArrivalText", "number", "I", false)
  | _ => ("PlayoutBuffer$ArrivalText", "index", "I", false)
def tyX0 : Nat → FieldType := fun k => match k with
  | 0 => .array .int
  | 1 => .int
  | 2 => .int
  | 3 => .int
  | 4 => .int
  | 5 => .int
  | 6 => .int
  | _ => .int
abbrev wsX00 : List Cond := u_ws RX0 TX0 8
theorem nmX0 : ∀ a, a < 8 → ∀ b, b < 8 → a ≠ b → (TX0 a).2.1 ≠ (TX0 b).2.1 := by decide +kernel
theorem tyX0_ok : ∀ k, k < 8 → parseFieldDescriptor (TX0 k).2.2.1 = some (tyX0 k) := by decide +kernel
abbrev cX0_init : ByteArray := prog_2_method_1_code
def yX0_init : MethodName := ⟨RX0, "<init>", "()V"⟩
abbrev cX0_write : ByteArray := prog_2_method_2_code
def yX0_write : MethodName := ⟨RX0, "write", "(I)V"⟩
abbrev cX0_readInto : ByteArray := prog_2_method_3_code
def yX0_readInto : MethodName := ⟨RX0, "readInto", "(LPlayoutBuffer$Arrivals;)I"⟩
abbrev cX0_follows : ByteArray := prog_2_method_4_code
def yX0_follows : MethodName := ⟨RX0, "follows", "(ILPlayoutBuffer$Arrivals;)Z"⟩
abbrev cX0_beginsEntry : ByteArray := prog_2_method_5_code
def yX0_beginsEntry : MethodName := ⟨RX0, "beginsEntry", "(I)Z"⟩
abbrev cX0_endOfNumber : ByteArray := prog_2_method_6_code
def yX0_endOfNumber : MethodName := ⟨RX0, "endOfNumber", "()I"⟩
abbrev cX0_endNumber : ByteArray := prog_2_method_7_code
def yX0_endNumber : MethodName := ⟨RX0, "endNumber", "(LPlayoutBuffer$Arrivals;)V"⟩
abbrev cX0_expect : ByteArray := prog_2_method_8_code
def yX0_expect : MethodName := ⟨RX0, "expect", "(I)V"⟩
def RX1 : String := "PlayoutBuffer$Arrivals"
def TX1 : u_T := fun k => match k with
  | 0 => ("PlayoutBuffer$Arrivals", "kinds", "[I", true)
  | 1 => ("PlayoutBuffer$Arrivals", "numbers", "[I", true)
  | 2 => ("PlayoutBuffer$Arrivals", "indexes", "[I", true)
  | 3 => ("PlayoutBuffer$Arrivals", "times", "[I", true)
  | _ => ("PlayoutBuffer$Arrivals", "size", "I", false)
def tyX1 : Nat → FieldType := fun k => match k with
  | 0 => .array .int
  | 1 => .array .int
  | 2 => .array .int
  | 3 => .array .int
  | _ => .int
abbrev wsX10 : List Cond := u_ws RX1 TX1 5
theorem nmX1 : ∀ a, a < 5 → ∀ b, b < 5 → a ≠ b → (TX1 a).2.1 ≠ (TX1 b).2.1 := by decide +kernel
theorem tyX1_ok : ∀ k, k < 5 → parseFieldDescriptor (TX1 k).2.2.1 = some (tyX1 k) := by decide +kernel
abbrev cX1_init : ByteArray := prog_3_method_1_code
def yX1_init : MethodName := ⟨RX1, "<init>", "()V"⟩
abbrev cX1_copyFrom : ByteArray := prog_3_method_2_code
def yX1_copyFrom : MethodName := ⟨RX1, "copyFrom", "(LPlayoutBuffer$Arrivals;)V"⟩
abbrev cX1_addAll : ByteArray := prog_3_method_3_code
def yX1_addAll : MethodName := ⟨RX1, "addAll", "(LPlayoutBuffer$Arrivals;)V"⟩
abbrev cX1_add : ByteArray := prog_3_method_4_code
def yX1_add : MethodName := ⟨RX1, "add", "(IIII)V"⟩
abbrev cX1_removeAllAt : ByteArray := prog_3_method_5_code
def yX1_removeAllAt : MethodName := ⟨RX1, "removeAllAt", "(I)V"⟩
def RX2 : String := "PlayoutBuffer$Counters"
def TX2 : u_T := fun k => match k with
  | 0 => ("PlayoutBuffer$Counters", "played", "I", false)
  | 1 => ("PlayoutBuffer$Counters", "restored", "I", false)
  | 2 => ("PlayoutBuffer$Counters", "concealed", "I", false)
  | 3 => ("PlayoutBuffer$Counters", "stretched", "I", false)
  | 4 => ("PlayoutBuffer$Counters", "compressed", "I", false)
  | 5 => ("PlayoutBuffer$Counters", "late", "I", false)
  | 6 => ("PlayoutBuffer$Counters", "duplicates", "I", false)
  | 7 => ("PlayoutBuffer$Counters", "gap", "I", false)
  | _ => ("PlayoutBuffer$Counters", "longestGap", "I", false)
def tyX2 : Nat → FieldType := fun k => match k with
  | 0 => .int
  | 1 => .int
  | 2 => .int
  | 3 => .int
  | 4 => .int
  | 5 => .int
  | 6 => .int
  | 7 => .int
  | _ => .int
abbrev wsX20 : List Cond := u_ws RX2 TX2 9
theorem nmX2 : ∀ a, a < 9 → ∀ b, b < 9 → a ≠ b → (TX2 a).2.1 ≠ (TX2 b).2.1 := by decide +kernel
theorem tyX2_ok : ∀ k, k < 9 → parseFieldDescriptor (TX2 k).2.2.1 = some (tyX2 k) := by decide +kernel
abbrev cX2_init : ByteArray := prog_4_method_1_code
def yX2_init : MethodName := ⟨RX2, "<init>", "()V"⟩
abbrev cX2_copyFrom : ByteArray := prog_4_method_2_code
def yX2_copyFrom : MethodName := ⟨RX2, "copyFrom", "(LPlayoutBuffer$Counters;)V"⟩
abbrev cX2_takenAs : ByteArray := prog_4_method_3_code
def yX2_takenAs : MethodName := ⟨RX2, "takenAs", "(I)I"⟩
abbrev cX2_countKnown : ByteArray := prog_4_method_4_code
def yX2_countKnown : MethodName := ⟨RX2, "countKnown", "(I)V"⟩
abbrev cX2_countConcealed : ByteArray := prog_4_method_5_code
def yX2_countConcealed : MethodName := ⟨RX2, "countConcealed", "()V"⟩
def RX3 : String := "PlayoutBuffer$Frames"
def TX3 : u_T := fun k => match k with
  | 0 => ("PlayoutBuffer$Frames", "known", "[J", true)
  | 1 => ("PlayoutBuffer$Frames", "arrived", "[J", true)
  | _ => ("PlayoutBuffer$Frames", "packets", "[I", true)
def tyX3 : Nat → FieldType := fun k => match k with
  | 0 => .array .long
  | 1 => .array .long
  | _ => .array .int
abbrev wsX30 : List Cond := u_ws RX3 TX3 3
theorem nmX3 : ∀ a, a < 3 → ∀ b, b < 3 → a ≠ b → (TX3 a).2.1 ≠ (TX3 b).2.1 := by decide +kernel
theorem tyX3_ok : ∀ k, k < 3 → parseFieldDescriptor (TX3 k).2.2.1 = some (tyX3 k) := by decide +kernel
abbrev cX3_init : ByteArray := prog_5_method_1_code
def yX3_init : MethodName := ⟨RX3, "<init>", "()V"⟩
abbrev cX3_copyFrom : ByteArray := prog_5_method_2_code
def yX3_copyFrom : MethodName := ⟨RX3, "copyFrom", "(LPlayoutBuffer$Frames;)V"⟩
abbrev cX3_stateOf : ByteArray := prog_5_method_3_code
def yX3_stateOf : MethodName := ⟨RX3, "stateOf", "(LPlayoutBuffer$Settings;I)I"⟩
abbrev cX3_hasPacket : ByteArray := prog_5_method_4_code
def yX3_hasPacket : MethodName := ⟨RX3, "hasPacket", "(ZII)Z"⟩
abbrev cX3_addFrame : ByteArray := prog_5_method_5_code
def yX3_addFrame : MethodName := ⟨RX3, "addFrame", "(LPlayoutBuffer$Settings;I)V"⟩
abbrev cX3_addPacket : ByteArray := prog_5_method_6_code
def yX3_addPacket : MethodName := ⟨RX3, "addPacket", "(ZII)V"⟩
abbrev cX3_restoreIn : ByteArray := prog_5_method_7_code
def yX3_restoreIn : MethodName := ⟨RX3, "restoreIn", "(LPlayoutBuffer$Settings;I)I"⟩
abbrev cX3_missingIn : ByteArray := prog_5_method_8_code
def yX3_missingIn : MethodName := ⟨RX3, "missingIn", "(LPlayoutBuffer$Settings;ZII)I"⟩
abbrev cX3_unrestorableIn : ByteArray := prog_5_method_9_code
def yX3_unrestorableIn : MethodName := ⟨RX3, "unrestorableIn", "(LPlayoutBuffer$Settings;I)I"⟩
abbrev cX3_knownFrom : ByteArray := prog_5_method_10_code
def yX3_knownFrom : MethodName := ⟨RX3, "knownFrom", "(LPlayoutBuffer$Settings;I)I"⟩
abbrev cX3_knownIn : ByteArray := prog_5_method_11_code
def yX3_knownIn : MethodName := ⟨RX3, "knownIn", "(LPlayoutBuffer$Settings;I)J"⟩
abbrev cX3_completed : ByteArray := prog_5_method_12_code
def yX3_completed : MethodName := ⟨RX3, "completed", "(LPlayoutBuffer$Settings;JI)J"⟩
abbrev cX3_withLine : ByteArray := prog_5_method_13_code
def yX3_withLine : MethodName := ⟨RX3, "withLine", "(LPlayoutBuffer$Settings;JIZI)J"⟩
abbrev cX3_packetBit : ByteArray := prog_5_method_14_code
def yX3_packetBit : MethodName := ⟨RX3, "packetBit", "(ZI)I"⟩
abbrev cX3_lineBits : ByteArray := prog_5_method_15_code
def yX3_lineBits : MethodName := ⟨RX3, "lineBits", "(LPlayoutBuffer$Settings;ZI)J"⟩
def RX4 : String := "PlayoutBuffer$Player"
def TX4 : u_T := fun k => match k with
  | 0 => ("PlayoutBuffer$Player", "frame", "[I", true)
  | 1 => ("PlayoutBuffer$Player", "length", "I", false)
  | 2 => ("PlayoutBuffer$Player", "position", "I", false)
  | 3 => ("PlayoutBuffer$Player", "history", "[I", true)
  | 4 => ("PlayoutBuffer$Player", "outputs", "I", false)
  | 5 => ("PlayoutBuffer$Player", "kinds", "[I", true)
  | 6 => ("PlayoutBuffer$Player", "next", "I", false)
  | _ => ("PlayoutBuffer$Player", "source", "[I", true)
def tyX4 : Nat → FieldType := fun k => match k with
  | 0 => .array .int
  | 1 => .int
  | 2 => .int
  | 3 => .array .int
  | 4 => .int
  | 5 => .array .int
  | 6 => .int
  | _ => .array .int
abbrev wsX40 : List Cond := u_ws RX4 TX4 8
theorem nmX4 : ∀ a, a < 8 → ∀ b, b < 8 → a ≠ b → (TX4 a).2.1 ≠ (TX4 b).2.1 := by decide +kernel
theorem tyX4_ok : ∀ k, k < 8 → parseFieldDescriptor (TX4 k).2.2.1 = some (tyX4 k) := by decide +kernel
abbrev cX4_init : ByteArray := prog_6_method_1_code
def yX4_init : MethodName := ⟨RX4, "<init>", "()V"⟩
abbrev cX4_copyFrom : ByteArray := prog_6_method_2_code
def yX4_copyFrom : MethodName := ⟨RX4, "copyFrom", "(LPlayoutBuffer$Player;)V"⟩
abbrev cX4_remaining : ByteArray := prog_6_method_3_code
def yX4_remaining : MethodName := ⟨RX4, "remaining", "()I"⟩
abbrev cX4_outputAt : ByteArray := prog_6_method_4_code
def yX4_outputAt : MethodName := ⟨RX4, "outputAt", "(I)I"⟩
abbrev cX4_kindAt : ByteArray := prog_6_method_5_code
def yX4_kindAt : MethodName := ⟨RX4, "kindAt", "(I)I"⟩
abbrev cX4_putOut : ByteArray := prog_6_method_6_code
def yX4_putOut : MethodName := ⟨RX4, "putOut", "()V"⟩
abbrev cX4_begin : ByteArray := prog_6_method_7_code
def yX4_begin : MethodName := ⟨RX4, "begin", "(I)V"⟩
abbrev cX4_loadWave : ByteArray := prog_6_method_8_code
def yX4_loadWave : MethodName := ⟨RX4, "loadWave", "(LPlayoutBuffer$Settings;I)V"⟩
abbrev cX4_putAsItIs : ByteArray := prog_6_method_9_code
def yX4_putAsItIs : MethodName := ⟨RX4, "putAsItIs", "(I)V"⟩
abbrev cX4_putCompressed : ByteArray := prog_6_method_10_code
def yX4_putCompressed : MethodName := ⟨RX4, "putCompressed", "(I)V"⟩
abbrev cX4_putStretched : ByteArray := prog_6_method_11_code
def yX4_putStretched : MethodName := ⟨RX4, "putStretched", "(I)V"⟩
abbrev cX4_putConcealed : ByteArray := prog_6_method_12_code
def yX4_putConcealed : MethodName := ⟨RX4, "putConcealed", "(II)V"⟩
abbrev cX4_putSource : ByteArray := prog_6_method_13_code
def yX4_putSource : MethodName := ⟨RX4, "putSource", "(II)V"⟩
abbrev cX4_put : ByteArray := prog_6_method_14_code
def yX4_put : MethodName := ⟨RX4, "put", "(I)V"⟩
abbrev cX4_bestLag : ByteArray := prog_6_method_15_code
def yX4_bestLag : MethodName := ⟨RX4, "bestLag", "(IZ)I"⟩
abbrev cX4_differences : ByteArray := prog_6_method_16_code
def yX4_differences : MethodName := ⟨RX4, "differences", "(I)I"⟩
abbrev cX4_faded : ByteArray := prog_6_method_17_code
def yX4_faded : MethodName := ⟨RX4, "faded", "(II)I"⟩
def RX5 : String := "PlayoutBuffer$Receiver"
def TX5 : u_T := fun k => match k with
  | 0 => ("PlayoutBuffer$Receiver", "settings", "LPlayoutBuffer$Settings;", true)
  | 1 => ("PlayoutBuffer$Receiver", "frames", "LPlayoutBuffer$Frames;", true)
  | 2 => ("PlayoutBuffer$Receiver", "transits", "LPlayoutBuffer$Transits;", true)
  | 3 => ("PlayoutBuffer$Receiver", "player", "LPlayoutBuffer$Player;", true)
  | 4 => ("PlayoutBuffer$Receiver", "counters", "LPlayoutBuffer$Counters;", true)
  | 5 => ("PlayoutBuffer$Receiver", "schedule", "LPlayoutBuffer$Arrivals;", true)
  | 6 => ("PlayoutBuffer$Receiver", "time", "I", false)
  | 7 => ("PlayoutBuffer$Receiver", "started", "Z", false)
  | _ => ("PlayoutBuffer$Receiver", "start", "I", false)
def tyX5 : Nat → FieldType := fun k => match k with
  | 0 => .object "PlayoutBuffer$Settings"
  | 1 => .object "PlayoutBuffer$Frames"
  | 2 => .object "PlayoutBuffer$Transits"
  | 3 => .object "PlayoutBuffer$Player"
  | 4 => .object "PlayoutBuffer$Counters"
  | 5 => .object "PlayoutBuffer$Arrivals"
  | 6 => .int
  | 7 => .boolean
  | _ => .int
abbrev wsX50 : List Cond := u_ws RX5 TX5 9
theorem nmX5 : ∀ a, a < 9 → ∀ b, b < 9 → a ≠ b → (TX5 a).2.1 ≠ (TX5 b).2.1 := by decide +kernel
theorem tyX5_ok : ∀ k, k < 9 → parseFieldDescriptor (TX5 k).2.2.1 = some (tyX5 k) := by decide +kernel
abbrev cX5_init : ByteArray := prog_7_method_1_code
def yX5_init : MethodName := ⟨RX5, "<init>", "()V"⟩
abbrev cX5_copyFrom : ByteArray := prog_7_method_2_code
def yX5_copyFrom : MethodName := ⟨RX5, "copyFrom", "(LPlayoutBuffer$Receiver;)V"⟩
abbrev cX5_hasBegun : ByteArray := prog_7_method_3_code
def yX5_hasBegun : MethodName := ⟨RX5, "hasBegun", "()Z"⟩
abbrev cX5_targetNow : ByteArray := prog_7_method_4_code
def yX5_targetNow : MethodName := ⟨RX5, "targetNow", "()I"⟩
abbrev cX5_levelFrom : ByteArray := prog_7_method_5_code
def yX5_levelFrom : MethodName := ⟨RX5, "levelFrom", "(I)I"⟩
abbrev cX5_acceptFrame : ByteArray := prog_7_method_6_code
def yX5_acceptFrame : MethodName := ⟨RX5, "acceptFrame", "(I)I"⟩
abbrev cX5_acceptPacket : ByteArray := prog_7_method_7_code
def yX5_acceptPacket : MethodName := ⟨RX5, "acceptPacket", "(ZII)I"⟩
abbrev cX5_passTick : ByteArray := prog_7_method_8_code
def yX5_passTick : MethodName := ⟨RX5, "passTick", "()V"⟩
abbrev cX5_startOnce : ByteArray := prog_7_method_9_code
def yX5_startOnce : MethodName := ⟨RX5, "startOnce", "()V"⟩
abbrev cX5_acceptDue : ByteArray := prog_7_method_10_code
def yX5_acceptDue : MethodName := ⟨RX5, "acceptDue", "()V"⟩
abbrev cX5_takeFrame : ByteArray := prog_7_method_11_code
def yX5_takeFrame : MethodName := ⟨RX5, "takeFrame", "(I)V"⟩
abbrev cX5_putKnown : ByteArray := prog_7_method_12_code
def yX5_putKnown : MethodName := ⟨RX5, "putKnown", "(I)V"⟩
def RX6 : String := "PlayoutBuffer$Settings"
def TX6 : u_T := fun k => match k with
  | 0 => ("PlayoutBuffer$Settings", "samples", "I", false)
  | 1 => ("PlayoutBuffer$Settings", "period", "I", false)
  | 2 => ("PlayoutBuffer$Settings", "slope", "I", false)
  | 3 => ("PlayoutBuffer$Settings", "columns", "I", false)
  | 4 => ("PlayoutBuffer$Settings", "rows", "I", false)
  | 5 => ("PlayoutBuffer$Settings", "initialDelay", "I", false)
  | 6 => ("PlayoutBuffer$Settings", "quantile", "I", false)
  | 7 => ("PlayoutBuffer$Settings", "margin", "I", false)
  | _ => ("PlayoutBuffer$Settings", "adapting", "Z", false)
def tyX6 : Nat → FieldType := fun k => match k with
  | 0 => .int
  | 1 => .int
  | 2 => .int
  | 3 => .int
  | 4 => .int
  | 5 => .int
  | 6 => .int
  | 7 => .int
  | _ => .boolean
abbrev wsX60 : List Cond := u_ws RX6 TX6 9
theorem nmX6 : ∀ a, a < 9 → ∀ b, b < 9 → a ≠ b → (TX6 a).2.1 ≠ (TX6 b).2.1 := by decide +kernel
theorem tyX6_ok : ∀ k, k < 9 → parseFieldDescriptor (TX6 k).2.2.1 = some (tyX6 k) := by decide +kernel
abbrev cX6_init : ByteArray := prog_8_method_1_code
def yX6_init : MethodName := ⟨RX6, "<init>", "()V"⟩
abbrev cX6_copyFrom : ByteArray := prog_8_method_2_code
def yX6_copyFrom : MethodName := ⟨RX6, "copyFrom", "(LPlayoutBuffer$Settings;)V"⟩
abbrev cX6_waveAt : ByteArray := prog_8_method_3_code
def yX6_waveAt : MethodName := ⟨RX6, "waveAt", "(II)I"⟩
abbrev cX6_cells : ByteArray := prog_8_method_4_code
def yX6_cells : MethodName := ⟨RX6, "cells", "()I"⟩
abbrev cX6_hasBlock : ByteArray := prog_8_method_5_code
def yX6_hasBlock : MethodName := ⟨RX6, "hasBlock", "(I)Z"⟩
abbrev cX6_hasPacket : ByteArray := prog_8_method_6_code
def yX6_hasPacket : MethodName := ⟨RX6, "hasPacket", "(ZII)Z"⟩
abbrev cX6_coveredFrame : ByteArray := prog_8_method_7_code
def yX6_coveredFrame : MethodName := ⟨RX6, "coveredFrame", "(ZIII)I"⟩
def RX7 : String := "PlayoutBuffer$Transits"
def TX7 : u_T := fun k => match k with
  | 0 => ("PlayoutBuffer$Transits", "latest", "[I", true)
  | 1 => ("PlayoutBuffer$Transits", "ascending", "[I", true)
  | 2 => ("PlayoutBuffer$Transits", "count", "I", false)
  | _ => ("PlayoutBuffer$Transits", "place", "I", false)
def tyX7 : Nat → FieldType := fun k => match k with
  | 0 => .array .int
  | 1 => .array .int
  | 2 => .int
  | _ => .int
abbrev wsX70 : List Cond := u_ws RX7 TX7 4
theorem nmX7 : ∀ a, a < 4 → ∀ b, b < 4 → a ≠ b → (TX7 a).2.1 ≠ (TX7 b).2.1 := by decide +kernel
theorem tyX7_ok : ∀ k, k < 4 → parseFieldDescriptor (TX7 k).2.2.1 = some (tyX7 k) := by decide +kernel
abbrev cX7_init : ByteArray := prog_9_method_1_code
def yX7_init : MethodName := ⟨RX7, "<init>", "()V"⟩
abbrev cX7_copyFrom : ByteArray := prog_9_method_2_code
def yX7_copyFrom : MethodName := ⟨RX7, "copyFrom", "(LPlayoutBuffer$Transits;)V"⟩
abbrev cX7_add : ByteArray := prog_9_method_3_code
def yX7_add : MethodName := ⟨RX7, "add", "(I)V"⟩
abbrev cX7_ascendingAt : ByteArray := prog_9_method_4_code
def yX7_ascendingAt : MethodName := ⟨RX7, "ascendingAt", "(I)I"⟩
abbrev cX7_spread : ByteArray := prog_9_method_5_code
def yX7_spread : MethodName := ⟨RX7, "spread", "(I)I"⟩
abbrev cX7_insert : ByteArray := prog_9_method_6_code
def yX7_insert : MethodName := ⟨RX7, "insert", "(II)V"⟩
def RX8 : String := "PlayoutBuffer"
def TX8 : u_T := fun k => match k with
  | 0 => ("PlayoutBuffer", "receiver", "LPlayoutBuffer$Receiver;", true)
  | 1 => ("PlayoutBuffer", "forecast", "LPlayoutBuffer$Receiver;", true)
  | 2 => ("PlayoutBuffer", "slots", "[LPlayoutBuffer$Receiver;", true)
  | 3 => ("PlayoutBuffer", "text", "LPlayoutBuffer$ArrivalText;", true)
  | _ => ("PlayoutBuffer", "described", "LPlayoutBuffer$Arrivals;", true)
def tyX8 : Nat → FieldType := fun k => match k with
  | 0 => .object "PlayoutBuffer$Receiver"
  | 1 => .object "PlayoutBuffer$Receiver"
  | 2 => .array (.object "PlayoutBuffer$Receiver")
  | 3 => .object "PlayoutBuffer$ArrivalText"
  | _ => .object "PlayoutBuffer$Arrivals"
abbrev wsX80 : List Cond := u_ws RX8 TX8 5
theorem nmX8 : ∀ a, a < 5 → ∀ b, b < 5 → a ≠ b → (TX8 a).2.1 ≠ (TX8 b).2.1 := by decide +kernel
theorem tyX8_ok : ∀ k, k < 5 → parseFieldDescriptor (TX8 k).2.2.1 = some (tyX8 k) := by decide +kernel
abbrev cX8_init : ByteArray := prog_1_method_1_code
def yX8_init : MethodName := ⟨RX8, "<init>", "()V"⟩
abbrev cX8_setFrame : ByteArray := prog_1_method_2_code
def yX8_setFrame : MethodName := ⟨RX8, "setFrame", "(I)I"⟩
abbrev cX8_setWave : ByteArray := prog_1_method_3_code
def yX8_setWave : MethodName := ⟨RX8, "setWave", "(II)I"⟩
abbrev cX8_setBlock : ByteArray := prog_1_method_4_code
def yX8_setBlock : MethodName := ⟨RX8, "setBlock", "(II)I"⟩
abbrev cX8_setInitialDelay : ByteArray := prog_1_method_5_code
def yX8_setInitialDelay : MethodName := ⟨RX8, "setInitialDelay", "(I)I"⟩
abbrev cX8_setQuantile : ByteArray := prog_1_method_6_code
def yX8_setQuantile : MethodName := ⟨RX8, "setQuantile", "(I)I"⟩
abbrev cX8_setMargin : ByteArray := prog_1_method_7_code
def yX8_setMargin : MethodName := ⟨RX8, "setMargin", "(I)I"⟩
abbrev cX8_setAdapting : ByteArray := prog_1_method_8_code
def yX8_setAdapting : MethodName := ⟨RX8, "setAdapting", "(Z)I"⟩
abbrev cX8_arrive : ByteArray := prog_1_method_9_code
def yX8_arrive : MethodName := ⟨RX8, "arrive", "(I)I"⟩
abbrev cX8_arriveParity : ByteArray := prog_1_method_10_code
def yX8_arriveParity : MethodName := ⟨RX8, "arriveParity", "(ZII)I"⟩
abbrev cX8_advance : ByteArray := prog_1_method_11_code
def yX8_advance : MethodName := ⟨RX8, "advance", "(I)I"⟩
abbrev cX8_time : ByteArray := prog_1_method_12_code
def yX8_time : MethodName := ⟨RX8, "time", "()I"⟩
abbrev cX8_start : ByteArray := prog_1_method_13_code
def yX8_start : MethodName := ⟨RX8, "start", "()I"⟩
abbrev cX8_output : ByteArray := prog_1_method_14_code
def yX8_output : MethodName := ⟨RX8, "output", "(I)I"⟩
abbrev cX8_outputs : ByteArray := prog_1_method_15_code
def yX8_outputs : MethodName := ⟨RX8, "outputs", "()I"⟩
abbrev cX8_left : ByteArray := prog_1_method_16_code
def yX8_left : MethodName := ⟨RX8, "left", "()I"⟩
abbrev cX8_next : ByteArray := prog_1_method_17_code
def yX8_next : MethodName := ⟨RX8, "next", "()I"⟩
abbrev cX8_kind : ByteArray := prog_1_method_18_code
def yX8_kind : MethodName := ⟨RX8, "kind", "(I)I"⟩
abbrev cX8_state : ByteArray := prog_1_method_19_code
def yX8_state : MethodName := ⟨RX8, "state", "(I)I"⟩
abbrev cX8_sample : ByteArray := prog_1_method_20_code
def yX8_sample : MethodName := ⟨RX8, "sample", "(II)I"⟩
abbrev cX8_missing : ByteArray := prog_1_method_21_code
def yX8_missing : MethodName := ⟨RX8, "missing", "(ZII)I"⟩
abbrev cX8_unrestorable : ByteArray := prog_1_method_22_code
def yX8_unrestorable : MethodName := ⟨RX8, "unrestorable", "(I)I"⟩
abbrev cX8_paritySample : ByteArray := prog_1_method_23_code
def yX8_paritySample : MethodName := ⟨RX8, "paritySample", "(ZIII)I"⟩
abbrev cX8_transits : ByteArray := prog_1_method_24_code
def yX8_transits : MethodName := ⟨RX8, "transits", "()I"⟩
abbrev cX8_transit : ByteArray := prog_1_method_25_code
def yX8_transit : MethodName := ⟨RX8, "transit", "(I)I"⟩
abbrev cX8_target : ByteArray := prog_1_method_26_code
def yX8_target : MethodName := ⟨RX8, "target", "()I"⟩
abbrev cX8_level : ByteArray := prog_1_method_27_code
def yX8_level : MethodName := ⟨RX8, "level", "()I"⟩
abbrev cX8_taken : ByteArray := prog_1_method_28_code
def yX8_taken : MethodName := ⟨RX8, "taken", "(I)I"⟩
abbrev cX8_stretched : ByteArray := prog_1_method_29_code
def yX8_stretched : MethodName := ⟨RX8, "stretched", "()I"⟩
abbrev cX8_compressed : ByteArray := prog_1_method_30_code
def yX8_compressed : MethodName := ⟨RX8, "compressed", "()I"⟩
abbrev cX8_late : ByteArray := prog_1_method_31_code
def yX8_late : MethodName := ⟨RX8, "late", "()I"⟩
abbrev cX8_duplicates : ByteArray := prog_1_method_32_code
def yX8_duplicates : MethodName := ⟨RX8, "duplicates", "()I"⟩
abbrev cX8_loss : ByteArray := prog_1_method_33_code
def yX8_loss : MethodName := ⟨RX8, "loss", "(Z)I"⟩
abbrev cX8_longestGap : ByteArray := prog_1_method_34_code
def yX8_longestGap : MethodName := ⟨RX8, "longestGap", "()I"⟩
abbrev cX8_ticksToGap : ByteArray := prog_1_method_35_code
def yX8_ticksToGap : MethodName := ⟨RX8, "ticksToGap", "()I"⟩
abbrev cX8_gapsIn : ByteArray := prog_1_method_36_code
def yX8_gapsIn : MethodName := ⟨RX8, "gapsIn", "(I)I"⟩
abbrev cX8_ticksToFrame : ByteArray := prog_1_method_37_code
def yX8_ticksToFrame : MethodName := ⟨RX8, "ticksToFrame", "(I)I"⟩
abbrev cX8_append : ByteArray := prog_1_method_38_code
def yX8_append : MethodName := ⟨RX8, "append", "(I)I"⟩
abbrev cX8_clearText : ByteArray := prog_1_method_39_code
def yX8_clearText : MethodName := ⟨RX8, "clearText", "()I"⟩
abbrev cX8_faultPosition : ByteArray := prog_1_method_40_code
def yX8_faultPosition : MethodName := ⟨RX8, "faultPosition", "()I"⟩
abbrev cX8_schedule : ByteArray := prog_1_method_41_code
def yX8_schedule : MethodName := ⟨RX8, "schedule", "()I"⟩
abbrev cX8_scheduled : ByteArray := prog_1_method_42_code
def yX8_scheduled : MethodName := ⟨RX8, "scheduled", "()I"⟩
abbrev cX8_keep : ByteArray := prog_1_method_43_code
def yX8_keep : MethodName := ⟨RX8, "keep", "(I)I"⟩
abbrev cX8_restore : ByteArray := prog_1_method_44_code
def yX8_restore : MethodName := ⟨RX8, "restore", "(I)I"⟩
abbrev cX8_checksum : ByteArray := prog_1_method_45_code
def yX8_checksum : MethodName := ⟨RX8, "checksum", "()J"⟩
abbrev cX8_isFrame : ByteArray := prog_1_method_46_code
def yX8_isFrame : MethodName := ⟨RX8, "isFrame", "(I)Z"⟩
abbrev cX8_canArrive : ByteArray := prog_1_method_47_code
def yX8_canArrive : MethodName := ⟨RX8, "canArrive", "(I)Z"⟩
abbrev cX8_commonDivisor : ByteArray := prog_1_method_48_code
def yX8_commonDivisor : MethodName := ⟨RX8, "commonDivisor", "(II)I"⟩
def RX9 : String := "PlayoutBufferModel"
def TX9 : u_T := fun k => match k with
  | 0 => ("PlayoutBufferModel", "v", "[I", true)
  | 1 => ("PlayoutBufferModel", "spare", "[I", true)
  | 2 => ("PlayoutBufferModel", "kept", "[I", true)
  | 3 => ("PlayoutBufferModel", "isKept", "[Z", true)
  | 4 => ("PlayoutBufferModel", "text", "[I", true)
  | 5 => ("PlayoutBufferModel", "length", "I", false)
  | 6 => ("PlayoutBufferModel", "sorted", "[I", true)
  | 7 => ("PlayoutBufferModel", "x", "[I", true)
  | 8 => ("PlayoutBufferModel", "told", "[I", true)
  | 9 => ("PlayoutBufferModel", "tellings", "I", false)
  | _ => ("PlayoutBufferModel", "place", "I", false)
def tyX9 : Nat → FieldType := fun k => match k with
  | 0 => .array .int
  | 1 => .array .int
  | 2 => .array .int
  | 3 => .array .boolean
  | 4 => .array .int
  | 5 => .int
  | 6 => .array .int
  | 7 => .array .int
  | 8 => .array .int
  | 9 => .int
  | _ => .int
abbrev wsX90 : List Cond := u_ws RX9 TX9 11
theorem nmX9 : ∀ a, a < 11 → ∀ b, b < 11 → a ≠ b → (TX9 a).2.1 ≠ (TX9 b).2.1 := by decide +kernel
theorem tyX9_ok : ∀ k, k < 11 → parseFieldDescriptor (TX9 k).2.2.1 = some (tyX9 k) := by decide +kernel
abbrev cX9_init : ByteArray := prog_11_method_1_code
def yX9_init : MethodName := ⟨RX9, "<init>", "()V"⟩
abbrev cX9_in : ByteArray := prog_11_method_3_code
def yX9_in : MethodName := ⟨RX9, "in", "(III)Z"⟩
abbrev cX9_size : ByteArray := prog_11_method_4_code
def yX9_size : MethodName := ⟨RX9, "size", "(I)I"⟩
abbrev cX9_put : ByteArray := prog_11_method_5_code
def yX9_put : MethodName := ⟨RX9, "put", "(II)I"⟩
abbrev cX9_isBegun : ByteArray := prog_11_method_6_code
def yX9_isBegun : MethodName := ⟨RX9, "isBegun", "()Z"⟩
abbrev cX9_setFrame : ByteArray := prog_11_method_7_code
def yX9_setFrame : MethodName := ⟨RX9, "setFrame", "(I)I"⟩
abbrev cX9_setWave : ByteArray := prog_11_method_8_code
def yX9_setWave : MethodName := ⟨RX9, "setWave", "(II)I"⟩
abbrev cX9_setBlock : ByteArray := prog_11_method_9_code
def yX9_setBlock : MethodName := ⟨RX9, "setBlock", "(II)I"⟩
abbrev cX9_setInitialDelay : ByteArray := prog_11_method_10_code
def yX9_setInitialDelay : MethodName := ⟨RX9, "setInitialDelay", "(I)I"⟩
abbrev cX9_setQuantile : ByteArray := prog_11_method_11_code
def yX9_setQuantile : MethodName := ⟨RX9, "setQuantile", "(I)I"⟩
abbrev cX9_setMargin : ByteArray := prog_11_method_12_code
def yX9_setMargin : MethodName := ⟨RX9, "setMargin", "(I)I"⟩
abbrev cX9_setAdapting : ByteArray := prog_11_method_13_code
def yX9_setAdapting : MethodName := ⟨RX9, "setAdapting", "(Z)I"⟩
abbrev cX9_isFrame : ByteArray := prog_11_method_14_code
def yX9_isFrame : MethodName := ⟨RX9, "isFrame", "(I)Z"⟩
abbrev cX9_area : ByteArray := prog_11_method_15_code
def yX9_area : MethodName := ⟨RX9, "area", "()I"⟩
abbrev cX9_isPacket : ByteArray := prog_11_method_16_code
def yX9_isPacket : MethodName := ⟨RX9, "isPacket", "(ZII)Z"⟩
abbrev cX9_packet : ByteArray := prog_11_method_17_code
def yX9_packet : MethodName := ⟨RX9, "packet", "(ZII)I"⟩
abbrev cX9_covers : ByteArray := prog_11_method_18_code
def yX9_covers : MethodName := ⟨RX9, "covers", "(Z)I"⟩
abbrev cX9_covered : ByteArray := prog_11_method_19_code
def yX9_covered : MethodName := ⟨RX9, "covered", "(ZIII)I"⟩
abbrev cX9_isKnown : ByteArray := prog_11_method_20_code
def yX9_isKnown : MethodName := ⟨RX9, "isKnown", "(I)Z"⟩
abbrev cX9_missingOf : ByteArray := prog_11_method_21_code
def yX9_missingOf : MethodName := ⟨RX9, "missingOf", "(ZII)I"⟩
abbrev cX9_restoresBy : ByteArray := prog_11_method_22_code
def yX9_restoresBy : MethodName := ⟨RX9, "restoresBy", "(ZII)I"⟩
abbrev cX9_restores : ByteArray := prog_11_method_23_code
def yX9_restores : MethodName := ⟨RX9, "restores", "(IZ)I"⟩
abbrev cX9_sampleOf : ByteArray := prog_11_method_24_code
def yX9_sampleOf : MethodName := ⟨RX9, "sampleOf", "(II)I"⟩
abbrev cX9_begins : ByteArray := prog_11_method_25_code
def yX9_begins : MethodName := ⟨RX9, "begins", "()V"⟩
abbrev cX9_sees : ByteArray := prog_11_method_26_code
def yX9_sees : MethodName := ⟨RX9, "sees", "(I)V"⟩
abbrev cX9_arrives : ByteArray := prog_11_method_27_code
def yX9_arrives : MethodName := ⟨RX9, "arrives", "(I)I"⟩
abbrev cX9_arrivesParity : ByteArray := prog_11_method_28_code
def yX9_arrivesParity : MethodName := ⟨RX9, "arrivesParity", "(ZII)I"⟩
abbrev cX9_arrive : ByteArray := prog_11_method_29_code
def yX9_arrive : MethodName := ⟨RX9, "arrive", "(I)I"⟩
abbrev cX9_arriveParity : ByteArray := prog_11_method_30_code
def yX9_arriveParity : MethodName := ⟨RX9, "arriveParity", "(ZII)I"⟩
abbrev cX9_arrivesBySchedule : ByteArray := prog_11_method_31_code
def yX9_arrivesBySchedule : MethodName := ⟨RX9, "arrivesBySchedule", "()V"⟩
abbrev cX9_sorts : ByteArray := prog_11_method_32_code
def yX9_sorts : MethodName := ⟨RX9, "sorts", "()V"⟩
abbrev cX9_targetNow : ByteArray := prog_11_method_33_code
def yX9_targetNow : MethodName := ⟨RX9, "targetNow", "()I"⟩
abbrev cX9_levelFrom : ByteArray := prog_11_method_34_code
def yX9_levelFrom : MethodName := ⟨RX9, "levelFrom", "(I)I"⟩
abbrev cX9_mixed : ByteArray := prog_11_method_35_code
def yX9_mixed : MethodName := ⟨RX9, "mixed", "(IIII)I"⟩
abbrev cX9_gives : ByteArray := prog_11_method_36_code
def yX9_gives : MethodName := ⟨RX9, "gives", "(I)V"⟩
abbrev cX9_lagOfFrame : ByteArray := prog_11_method_37_code
def yX9_lagOfFrame : MethodName := ⟨RX9, "lagOfFrame", "()I"⟩
abbrev cX9_fits : ByteArray := prog_11_method_38_code
def yX9_fits : MethodName := ⟨RX9, "fits", "(I)V"⟩
abbrev cX9_old : ByteArray := prog_11_method_39_code
def yX9_old : MethodName := ⟨RX9, "old", "(I)I"⟩
abbrev cX9_lagOfHistory : ByteArray := prog_11_method_40_code
def yX9_lagOfHistory : MethodName := ⟨RX9, "lagOfHistory", "()I"⟩
abbrev cX9_conceals : ByteArray := prog_11_method_41_code
def yX9_conceals : MethodName := ⟨RX9, "conceals", "()V"⟩
abbrev cX9_takes : ByteArray := prog_11_method_42_code
def yX9_takes : MethodName := ⟨RX9, "takes", "()V"⟩
abbrev cX9_tick : ByteArray := prog_11_method_43_code
def yX9_tick : MethodName := ⟨RX9, "tick", "()I"⟩
abbrev cX9_advance : ByteArray := prog_11_method_44_code
def yX9_advance : MethodName := ⟨RX9, "advance", "(I)I"⟩
abbrev cX9_time : ByteArray := prog_11_method_45_code
def yX9_time : MethodName := ⟨RX9, "time", "()I"⟩
abbrev cX9_start : ByteArray := prog_11_method_46_code
def yX9_start : MethodName := ⟨RX9, "start", "()I"⟩
abbrev cX9_output : ByteArray := prog_11_method_47_code
def yX9_output : MethodName := ⟨RX9, "output", "(I)I"⟩
abbrev cX9_outputs : ByteArray := prog_11_method_48_code
def yX9_outputs : MethodName := ⟨RX9, "outputs", "()I"⟩
abbrev cX9_left : ByteArray := prog_11_method_49_code
def yX9_left : MethodName := ⟨RX9, "left", "()I"⟩
abbrev cX9_next : ByteArray := prog_11_method_50_code
def yX9_next : MethodName := ⟨RX9, "next", "()I"⟩
abbrev cX9_kind : ByteArray := prog_11_method_51_code
def yX9_kind : MethodName := ⟨RX9, "kind", "(I)I"⟩
abbrev cX9_state : ByteArray := prog_11_method_52_code
def yX9_state : MethodName := ⟨RX9, "state", "(I)I"⟩
abbrev cX9_sample : ByteArray := prog_11_method_53_code
def yX9_sample : MethodName := ⟨RX9, "sample", "(II)I"⟩
abbrev cX9_missing : ByteArray := prog_11_method_54_code
def yX9_missing : MethodName := ⟨RX9, "missing", "(ZII)I"⟩
abbrev cX9_unrestorable : ByteArray := prog_11_method_55_code
def yX9_unrestorable : MethodName := ⟨RX9, "unrestorable", "(I)I"⟩
abbrev cX9_paritySample : ByteArray := prog_11_method_56_code
def yX9_paritySample : MethodName := ⟨RX9, "paritySample", "(ZIII)I"⟩
abbrev cX9_transits : ByteArray := prog_11_method_57_code
def yX9_transits : MethodName := ⟨RX9, "transits", "()I"⟩
abbrev cX9_transit : ByteArray := prog_11_method_58_code
def yX9_transit : MethodName := ⟨RX9, "transit", "(I)I"⟩
abbrev cX9_target : ByteArray := prog_11_method_59_code
def yX9_target : MethodName := ⟨RX9, "target", "()I"⟩
abbrev cX9_level : ByteArray := prog_11_method_60_code
def yX9_level : MethodName := ⟨RX9, "level", "()I"⟩
abbrev cX9_taken : ByteArray := prog_11_method_61_code
def yX9_taken : MethodName := ⟨RX9, "taken", "(I)I"⟩
abbrev cX9_stretched : ByteArray := prog_11_method_62_code
def yX9_stretched : MethodName := ⟨RX9, "stretched", "()I"⟩
abbrev cX9_compressed : ByteArray := prog_11_method_63_code
def yX9_compressed : MethodName := ⟨RX9, "compressed", "()I"⟩
abbrev cX9_late : ByteArray := prog_11_method_64_code
def yX9_late : MethodName := ⟨RX9, "late", "()I"⟩
abbrev cX9_duplicates : ByteArray := prog_11_method_65_code
def yX9_duplicates : MethodName := ⟨RX9, "duplicates", "()I"⟩
abbrev cX9_loss : ByteArray := prog_11_method_66_code
def yX9_loss : MethodName := ⟨RX9, "loss", "(Z)I"⟩
abbrev cX9_longestGap : ByteArray := prog_11_method_67_code
def yX9_longestGap : MethodName := ⟨RX9, "longestGap", "()I"⟩
abbrev cX9_keeps : ByteArray := prog_11_method_68_code
def yX9_keeps : MethodName := ⟨RX9, "keeps", "()V"⟩
abbrev cX9_brings : ByteArray := prog_11_method_69_code
def yX9_brings : MethodName := ⟨RX9, "brings", "()V"⟩
abbrev cX9_ticksToGap : ByteArray := prog_11_method_70_code
def yX9_ticksToGap : MethodName := ⟨RX9, "ticksToGap", "()I"⟩
abbrev cX9_gapsIn : ByteArray := prog_11_method_71_code
def yX9_gapsIn : MethodName := ⟨RX9, "gapsIn", "(I)I"⟩
abbrev cX9_ticksToFrame : ByteArray := prog_11_method_72_code
def yX9_ticksToFrame : MethodName := ⟨RX9, "ticksToFrame", "(I)I"⟩
abbrev cX9_append : ByteArray := prog_11_method_73_code
def yX9_append : MethodName := ⟨RX9, "append", "(I)I"⟩
abbrev cX9_clearText : ByteArray := prog_11_method_74_code
def yX9_clearText : MethodName := ⟨RX9, "clearText", "()I"⟩
abbrev cX9_here : ByteArray := prog_11_method_75_code
def yX9_here : MethodName := ⟨RX9, "here", "()I"⟩
abbrev cX9_takes_ : ByteArray := prog_11_method_76_code
def yX9_takes_ : MethodName := ⟨RX9, "takes", "(I)Z"⟩
abbrev cX9_number : ByteArray := prog_11_method_77_code
def yX9_number : MethodName := ⟨RX9, "number", "()I"⟩
abbrev cX9_isEntry : ByteArray := prog_11_method_78_code
def yX9_isEntry : MethodName := ⟨RX9, "isEntry", "()Z"⟩
abbrev cX9_isText : ByteArray := prog_11_method_79_code
def yX9_isText : MethodName := ⟨RX9, "isText", "()Z"⟩
abbrev cX9_faultPosition : ByteArray := prog_11_method_80_code
def yX9_faultPosition : MethodName := ⟨RX9, "faultPosition", "()I"⟩
abbrev cX9_isArrival : ByteArray := prog_11_method_81_code
def yX9_isArrival : MethodName := ⟨RX9, "isArrival", "(I)Z"⟩
abbrev cX9_schedule : ByteArray := prog_11_method_82_code
def yX9_schedule : MethodName := ⟨RX9, "schedule", "()I"⟩
abbrev cX9_scheduled : ByteArray := prog_11_method_83_code
def yX9_scheduled : MethodName := ⟨RX9, "scheduled", "()I"⟩
abbrev cX9_keep : ByteArray := prog_11_method_84_code
def yX9_keep : MethodName := ⟨RX9, "keep", "(I)I"⟩
abbrev cX9_restore : ByteArray := prog_11_method_85_code
def yX9_restore : MethodName := ⟨RX9, "restore", "(I)I"⟩
abbrev cX9_more : ByteArray := prog_11_method_86_code
def yX9_more : MethodName := ⟨RX9, "more", "(JI)J"⟩
abbrev cX9_checksum : ByteArray := prog_11_method_87_code
def yX9_checksum : MethodName := ⟨RX9, "checksum", "()J"⟩
def RJ13 : String := "java/lang/Long"
def TJ13 : u_T := fun k => match k with
  | _ => ("", "", "", false)
def tyJ13 : Nat → FieldType := fun k => match k with
  | _ => .int
abbrev cJ13_bitCount_95d88 : ByteArray := prog_12_method_50_code
def yJ13_bitCount_95d88 : MethodName := ⟨RJ13, "bitCount", "(J)I"⟩
def RJ9 : String := "java/lang/Math"
def TJ9 : u_T := fun k => match k with
  | _ => ("", "", "", false)
def tyJ9 : Nat → FieldType := fun k => match k with
  | _ => .int
abbrev cJ9_abs_0f7a4 : ByteArray := prog_13_method_59_code
def yJ9_abs_0f7a4 : MethodName := ⟨RJ9, "abs", "(I)I"⟩
abbrev cJ9_max_7cf53 : ByteArray := prog_13_method_65_code
def yJ9_max_7cf53 : MethodName := ⟨RJ9, "max", "(II)I"⟩
abbrev cJ9_min_7cf53 : ByteArray := prog_13_method_69_code
def yJ9_min_7cf53 : MethodName := ⟨RJ9, "min", "(II)I"⟩
def RJ10 : String := "java/lang/System"
def TJ10 : u_T := fun k => match k with
  | _ => ("", "", "", false)
def tyJ10 : Nat → FieldType := fun k => match k with
  | _ => .int
def RL : String := "PlayoutBufferLaw"
abbrev cL_law : ByteArray := code
def yL_law : MethodName := ⟨RL, "law", "([I)Z"⟩
abbrev vwCl : List vw_C := [(RX0, TX0, 8), (RX1, TX1, 5), (RX2, TX2, 9), (RX3, TX3, 3), (RX4, TX4, 8), (RX5, TX5, 9), (RX6, TX6, 9), (RX7, TX7, 4), (RX8, TX8, 5), (RX9, TX9, 11)]
end
section
-- numbers: an int is held as ja_I of a whole number
def ja_I (z : Int) : Int32 := Int32.ofInt z
def ja_L (z : Int) : Int64 := Int64.ofInt z
def ja_in (z : Int) : Prop := -2147483648 ≤ z ∧ z < 2147483648
theorem ja_toInt {z : Int} (h : ja_in z) : (ja_I z).toInt = z := Int32.toInt_ofInt_of_le h.1 h.2
theorem ja_range (x : Int32) : ja_in x.toInt := ⟨by have := Int32.le_toInt x; omega, by have := Int32.toInt_lt x; omega⟩
theorem ja_of (x : Int32) : ja_I x.toInt = x := Int32.ofInt_toInt x
theorem ja_add (a b : Int) : ja_I a + ja_I b = ja_I (a + b) := by unfold ja_I; rw [Int32.ofInt_add]
theorem ja_sub (a b : Int) : ja_I a - ja_I b = ja_I (a - b) := by unfold ja_I; rw [Int32.ofInt_sub]
theorem ja_mul (a b : Int) : ja_I a * ja_I b = ja_I (a * b) := by unfold ja_I; rw [Int32.ofInt_mul]
theorem ja_zero : (0 : Int32) = ja_I 0 := rfl
theorem ja_neg (a : Int) : -(ja_I a) = ja_I (-a) := by
  have h : ja_I (-a) = ja_I 0 - ja_I a := by rw [ja_sub]; congr 1; omega
  rw [h, ← ja_zero]
  first | exact (Int32.zero_sub _).symm | simp
theorem ja_eq {a b : Int} (ha : ja_in a) (hb : ja_in b) : ja_I a = ja_I b ↔ a = b := by
  rw [← Int32.toInt_inj, ja_toInt ha, ja_toInt hb]
theorem ja_le {a b : Int} (ha : ja_in a) (hb : ja_in b) : ja_I a ≤ ja_I b ↔ a ≤ b := by
  rw [Int32.le_iff_toInt_le, ja_toInt ha, ja_toInt hb]
theorem ja_lt {a b : Int} (ha : ja_in a) (hb : ja_in b) : ja_I a < ja_I b ↔ a < b := by
  rw [Int32.lt_iff_toInt_lt, ja_toInt ha, ja_toInt hb]
theorem ja_in0 : ja_in 0 := ⟨by decide, by decide⟩
theorem ja_tdiv_in {a b : Int} (ha : ja_in a) (hb : 0 < b) : ja_in (a.tdiv b) := by
  obtain ⟨h1, h2⟩ := ha
  have h := Int.tmod_def a b
  rcases Int.le_total 0 a with h0 | h0
  · rw [Int.tdiv_eq_ediv_of_nonneg h0]
    have h3 := Int.ediv_nonneg h0 (by omega : 0 ≤ b)
    have h4 := Int.ediv_le_self b h0
    exact ⟨by omega, by omega⟩
  · have e : a.tdiv b = -((-a) / b) := by
      rw [← Int.tdiv_eq_ediv_of_nonneg (by omega : 0 ≤ -a), Int.neg_tdiv]
      omega
    have h3 := Int.ediv_nonneg (by omega : 0 ≤ -a) (by omega : 0 ≤ b)
    have h4 := Int.ediv_le_self b (by omega : 0 ≤ -a)
    rw [e]
    exact ⟨by omega, by omega⟩
theorem ja_div {a b : Int} (ha : ja_in a) (hb : ja_in b) (h : 0 < b) : ja_I a / ja_I b = ja_I (a.tdiv b) := by
  have hne : ja_I b ≠ -1 := by
    intro e
    have e2 : (ja_I b).toInt = -1 := by rw [e]; rfl
    rw [ja_toInt hb] at e2
    omega
  rw [← Int32.toInt_inj, Int32.toInt_div_of_ne_right _ _ hne, ja_toInt ha, ja_toInt hb, ja_toInt (ja_tdiv_in ha h)]
theorem ja_ne0 {b : Int} (hb : ja_in b) (h : b ≠ 0) : ¬ ja_I b = 0 := by
  rw [ja_zero, ja_eq hb ja_in0]
  exact h
theorem ja_rem {a b : Int} (ha : ja_in a) (hb : ja_in b) (h : 0 < b) : ja_I a - ja_I a / ja_I b * ja_I b = ja_I (a.tmod b) := by
  rw [ja_div ha hb h, ja_mul, ja_sub, Int.tmod_def, Int.mul_comm b]
theorem ja_clamp {z : Int} (h : ja_in z) : (ja_I z).toNatClampNeg = z.toNat := by
  show (ja_I z).toInt.toNat = z.toNat
  rw [ja_toInt h]
theorem ja_vpin {z : Int} {n : Nat} (h0 : 0 ≤ z) (h1 : z < n) (hn : n ≤ 2147483648) : vp_in (ja_I z) n := by
  have hz : ja_in z := ⟨by omega, by omega⟩
  rw [vp_in_iff, ja_toInt hz]
  exact ⟨h0, h1⟩
theorem ja_byte {z : Int} (h : -128 ≤ z ∧ z ≤ 127) : (Int8.ofInt z).toInt32 = ja_I z := by
  rw [← Int32.toInt_inj, ja_toInt ⟨by omega, by omega⟩]
  first
    | (rw [Int8.toInt_toInt32, Int8.toInt_ofInt_of_le (by omega) (by omega)])
    | (simp [Int8.toInt_ofInt]; omega)
theorem ja_short {z : Int} (h : -32768 ≤ z ∧ z ≤ 32767) : (Int16.ofInt z).toInt32 = ja_I z := by
  rw [← Int32.toInt_inj, ja_toInt ⟨by omega, by omega⟩]
  first
    | (rw [Int16.toInt_toInt32, Int16.toInt_ofInt_of_le (by omega) (by omega)])
    | (simp [Int16.toInt_ofInt]; omega)
theorem ja_Lof (x : Int64) : ja_L x.toInt = x := Int64.ofInt_toInt x
-- memory: a cell's numbers by address and place
abbrev ja_M : Type := Nat → Nat → Int
def ja_up (mem : ja_M) (a j : Nat) (z : Int) : ja_M := fun a' j' => if a' = a ∧ j' = j then z else mem a' j'
theorem ja_up_s (mem : ja_M) (a j : Nat) (z : Int) : ja_up mem a j z a j = z := by simp [ja_up]
theorem ja_up_a {mem : ja_M} {a j a' j' : Nat} {z : Int} (h : a' ≠ a) : ja_up mem a j z a' j' = mem a' j' := by simp [ja_up, h]
theorem ja_up_j {mem : ja_M} {a j a' j' : Nat} {z : Int} (h : j' ≠ j) : ja_up mem a j z a' j' = mem a' j' := by simp [ja_up, h]
theorem ja_up_row {mem : ja_M} {a j a' : Nat} {z : Int} (h : a' ≠ a) : ja_up mem a j z a' = mem a' := by funext q; exact ja_up_a h
/-- what a cell is: an object of a class, place by place (none: a number, some: a fixed value); or an array: its kind (0 int, 1 long, 2 boolean, 3 references), its length, its references -/
abbrev ja_E : Type := (Nat × List (Option Value)) ⊕ (Nat × Nat × (Nat → Option Nat))
abbrev ja_Y : Type := Nat → Option ja_E
def ja_dv (d : Option Value) (z : Int) : Value := match d with | some v => v | none => .int (ja_I z)
def ja_fs : Nat → List (Option Value) → (Nat → Int) → List Value
  | _, [], _ => []
  | j, d :: ds, f => ja_dv d (f j) :: ja_fs (j + 1) ds f
def ja_cell (cA : Nat → ClassId) (e : ja_E) (f : Nat → Int) : va_E := match e with
  | .inl o => .inr (o.1, ja_fs 0 o.2 f)
  | .inr (0, n, _) => .inl (cA 0, n, .inl (fun j => ja_I (f j)))
  | .inr (1, n, _) => .inl (cA 1, n, .inr (.inl (fun j => ja_L (f j))))
  | .inr (2, n, _) => .inl (cA 2, n, .inl (fun j => ja_I (f j)))
  | .inr (_, n, r) => .inl (cA 3, n, .inr (.inr (.inr (.inr r))))
def ja_H (D : va_G) (cA : Nat → ClassId) (B : Nat) (lay : ja_Y) (mem : ja_M) (n : Nat) (H : Heap) : Prop := H.size = n ∧ ∀ (a : Nat) (e : ja_E), lay a = some e → B ≤ a ∧ a < n ∧ va_at D vwCl (a, ja_cell cA e (mem a)) H
def ja_tys (cA : Nat → ClassId) : List (ClassId × FieldType) := [(cA 0, .int), (cA 1, .long), (cA 2, .boolean), (cA 3, .object RX5)]
theorem ja_fs_len : ∀ (ds : List (Option Value)) (i : Nat) (f : Nat → Int), (ja_fs i ds f).length = ds.length
  | [], _, _ => rfl
  | _ :: ds, i, f => by simp [ja_fs, ja_fs_len ds (i + 1) f]
theorem ja_fs_get : ∀ (ds : List (Option Value)) (i : Nat) (f : Nat → Int) (k : Nat) (d : Option Value), ds[k]? = some d → (ja_fs i ds f)[k]? = some (ja_dv d (f (i + k)))
  | [], _, _, k, d, h => by simp at h
  | d0 :: ds, i, f, 0, d, h => by
    simp only [List.getElem?_cons_zero, Option.some.injEq] at h
    subst h
    rfl
  | d0 :: ds, i, f, k + 1, d, h => by
    simp only [List.getElem?_cons_succ] at h
    have := ja_fs_get ds (i + 1) f k d h
    simp only [ja_fs, List.getElem?_cons_succ]
    rw [this, show i + 1 + k = i + (k + 1) by omega]
theorem ja_fs_get0 {ds : List (Option Value)} {f : Nat → Int} {k : Nat} {d : Option Value} (h : ds[k]? = some d) : (ja_fs 0 ds f)[k]? = some (ja_dv d (f k)) := by
  have := ja_fs_get ds 0 f k d h
  rwa [Nat.zero_add] at this
theorem ja_fs_set : ∀ (ds : List (Option Value)) (i : Nat) (f g : Nat → Int) (k : Nat), ds[k]? = some none → (∀ j, j ≠ i + k → g j = f j) → (ja_fs i ds f).set k (.int (ja_I (g (i + k)))) = ja_fs i ds g
  | [], _, _, _, k, h, _ => by simp at h
  | d0 :: ds, i, f, g, 0, h, hg => by
    simp only [List.getElem?_cons_zero, Option.some.injEq] at h
    subst h
    have e : ja_fs (i + 1) ds f = ja_fs (i + 1) ds g := by
      have key : ∀ (ds : List (Option Value)) (j : Nat), i < j → ja_fs j ds f = ja_fs j ds g := by
        intro ds
        induction ds with
        | nil => intro j hj; rfl
        | cons d ds ih =>
          intro j hj
          simp only [ja_fs]
          rw [ih (j + 1) (by omega), hg j (by omega)]
      exact key ds (i + 1) (by omega)
    simp only [ja_fs, List.set_cons_zero]
    rw [e]
    rfl
  | d0 :: ds, i, f, g, k + 1, h, hg => by
    simp only [List.getElem?_cons_succ] at h
    have := ja_fs_set ds (i + 1) f g k h (fun j hj => hg j (by omega))
    simp only [ja_fs, List.set_cons_succ]
    rw [show i + (k + 1) = i + 1 + k by omega, this, hg i (by omega)]
theorem ja_fs_put {ds : List (Option Value)} {mem : ja_M} {a k : Nat} {z : Int} (h : ds[k]? = some none) : (ja_fs 0 ds (mem a)).set k (.int (ja_I z)) = ja_fs 0 ds (ja_up mem a k z a) := by
  have h1 := ja_fs_set ds 0 (mem a) (ja_up mem a k z a) k h (fun j hj => ja_up_j (by omega))
  rw [Nat.zero_add, ja_up_s] at h1
  exact h1
-- locals by place
def ja_al : Nat → List (Option Value) → List (Nat × Value)
  | _, [] => []
  | i, some v :: r => (i, v) :: ja_al (i + 1) r
  | i, none :: r => ja_al (i + 1) r
theorem ja_al_mem : ∀ (ls : List (Option Value)) (i : Nat) (q : Nat × Value), q ∈ ja_al i ls ↔ ∃ k, q.1 = i + k ∧ ls[k]? = some (some q.2)
  | [], i, q => by simp [ja_al]
  | some v :: r, i, q => by
    simp only [ja_al, List.mem_cons]
    rw [ja_al_mem r (i + 1) q]
    constructor
    · rintro (rfl | ⟨k, h1, h2⟩)
      · exact ⟨0, by simp, by simp⟩
      · exact ⟨k + 1, by omega, by simpa using h2⟩
    · rintro ⟨k, h1, h2⟩
      cases k with
      | zero =>
        left
        simp only [List.getElem?_cons_zero, Option.some.injEq] at h2
        obtain ⟨q1, q2⟩ := q
        simp only at h1 h2
        subst h2
        simp [h1]
      | succ k => right; exact ⟨k, by omega, by simpa using h2⟩
  | none :: r, i, q => by
    simp only [ja_al]
    rw [ja_al_mem r (i + 1) q]
    constructor
    · rintro ⟨k, h1, h2⟩
      exact ⟨k + 1, by omega, by simpa using h2⟩
    · rintro ⟨k, h1, h2⟩
      cases k with
      | zero => simp at h2
      | succ k => exact ⟨k, by omega, by simpa using h2⟩
theorem ja_has_at {lsA : Array Slot} {nL : Nat} {ls : List (Option Value)} (h : lv_has lsA nL (ja_al 0 ls)) {k : Nat} {v : Value} (hk : ls[k]? = some (some v)) : lsA[k]? = some (.val v) := by
  have := h.2.2 (k, v) ((ja_al_mem ls 0 (k, v)).mpr ⟨k, by simp, hk⟩)
  exact this
theorem ja_has_sub {lsA : Array Slot} {nL : Nat} {l l' : List (Nat × Value)} (h : lv_has lsA nL l) (hs : ∀ q ∈ l', q ∈ l) : lv_has lsA nL l' := ⟨h.1, h.2.1, fun q hq => h.2.2 q (hs q hq)⟩
/-- the local ahead of a stored one isn't a long -/
def ja_pre (ls : List (Option Value)) : Nat → Bool
  | 0 => true
  | i + 1 => match ls[i]? with | some (some v) => v.category != 2 | _ => true
theorem ja_has_set {lsA : Array Slot} {nL i : Nat} {ls : List (Option Value)} {v : Value} (h : lv_has lsA nL ((i, v) :: (ja_al 0 ls).filter (fun q => !(q.1 == i) && !(q.1 + 1 == i && q.2.category == 2)))) (hp : ja_pre ls i = true) : lv_has lsA nL (ja_al 0 (ls.set i (some v))) := by
  refine ja_has_sub h fun q hq => ?_
  obtain ⟨k, h1, h2⟩ := (ja_al_mem _ 0 q).mp hq
  by_cases hk : k = i
  · subst hk
    rw [List.getElem?_set] at h2
    simp only [if_true] at h2
    by_cases hl : k < ls.length
    · rw [if_pos hl] at h2
      simp only [Option.some.injEq] at h2
      obtain ⟨q1, q2⟩ := q
      simp only at h1 h2
      subst h2
      simp [h1]
    · rw [if_neg hl] at h2
      cases h2
  · rw [List.getElem?_set_ne (Ne.symm hk)] at h2
    refine List.mem_cons_of_mem _ (List.mem_filter.mpr ⟨(ja_al_mem _ 0 q).mpr ⟨k, h1, h2⟩, ?_⟩)
    simp only [Bool.and_eq_true, Bool.not_eq_true', beq_eq_false_iff_ne, ne_eq, Bool.and_eq_false_iff]
    refine ⟨by omega, ?_⟩
    by_cases hk1 : q.1 + 1 = i
    · right
      have : i = k + 1 := by omega
      subst this
      simp only [ja_pre, h2] at hp
      simpa using hp
    · left; exact hk1
theorem ja_has_setL {lsA : Array Slot} {nL i : Nat} {ls : List (Option Value)} {v : Value} (h : lv_has lsA nL ((i, v) :: (ja_al 0 ls).filter (fun q => !(q.1 == i) && (!(q.1 == i + 1) && !(q.1 + 1 == i && q.2.category == 2))))) (hp : ja_pre ls i = true) : lv_has lsA nL (ja_al 0 ((ls.set i (some v)).set (i + 1) none)) := by
  refine ja_has_sub h fun q hq => ?_
  obtain ⟨k, h1, h2⟩ := (ja_al_mem _ 0 q).mp hq
  by_cases hk1 : k = i + 1
  · subst hk1
    rw [List.getElem?_set] at h2
    simp only [if_true] at h2
    split at h2 <;> cases h2
  · rw [List.getElem?_set_ne (Ne.symm hk1)] at h2
    by_cases hk : k = i
    · subst hk
      rw [List.getElem?_set] at h2
      simp only [if_true] at h2
      by_cases hl : k < ls.length
      · rw [if_pos hl] at h2
        simp only [Option.some.injEq] at h2
        obtain ⟨q1, q2⟩ := q
        simp only at h1 h2
        subst h2
        simp [h1]
      · rw [if_neg hl] at h2
        cases h2
    · rw [List.getElem?_set_ne (Ne.symm hk)] at h2
      refine List.mem_cons_of_mem _ (List.mem_filter.mpr ⟨(ja_al_mem _ 0 q).mpr ⟨k, h1, h2⟩, ?_⟩)
      simp only [Bool.and_eq_true, Bool.not_eq_true', beq_eq_false_iff_ne, ne_eq, Bool.and_eq_false_iff]
      refine ⟨by omega, by omega, ?_⟩
      by_cases hk2 : q.1 + 1 = i
      · right
        have : i = k + 1 := by omega
        subst this
        simp only [ja_pre, h2] at hp
        simpa using hp
      · left; exact hk2
def ja_isN : Cond → Bool
  | .fieldLinkNest _ _ _ _ _ _ => true
  | .methodLinkNest _ _ _ _ => true
  | _ => false
def ja_K (D : va_G) (cA : Nat → ClassId) (U : State) : Prop := va_K D vwCl (ja_tys cA) U ∧ va_AO RX5 U ∧ ∀ w ∈ lw_tbl, ja_isN w = true → va_Nw w U
theorem ja_K.warm {D : va_G} {cA : Nat → ClassId} {s U : State} (hW : s.WarmedH U.vm) (h : ja_K D cA s) : ja_K D cA U := by
  refine ⟨va_K.moved hW.alike h.1, va_AO.moved hW.alike h.2.1, fun w hw hn => ?_⟩
  have h1 := h.2.2 w hw hn
  cases w <;> first | exact va_Nw.warmF hW h1 | exact va_Nw.warmM hW h1 | (simp [ja_isN] at hn)
theorem ja_K.call {D : va_G} {cA : Nat → ClassId} {U : State} (g : JFrame) (mk : MethodId) (a : Array Value) (h : ja_K D cA U) : ja_K D cA (U.calling g mk a) := by
  refine ⟨va_K.moved (u := U) (U := U.calling g mk a) (Vm.Alike.refl U.vm) h.1, va_AO.moved (u := U) (U := U.calling g mk a) (Vm.Alike.refl U.vm) h.2.1, fun w hw hn => ?_⟩
  have h1 := h.2.2 w hw hn
  refine va_Nw.same (u := U) ?_ rfl h1
  cases w <;> first | rfl | (simp [ja_isN] at hn)
def lw_tbg : List Cond := lw_tbl.filter goodWord
end
section
abbrev ja_C : Type := Program × Launch × Env × Room × State × MethodId × Array Value × List Frame × Method × Code × va_G × (Nat → ClassId) × Nat × Nat × (State → Prop)
/-- the walk, from a world (layout, memory, its end), a place, the locals and the stack -/
def ja_W (C : ja_C) (cells slots : Nat) (lay : ja_Y) (mem : ja_M) (n pc : Nat) (ls : List (Option Value)) (st : List Value) : Prop := match C with
  | (p, l, e, R, s, m, args, below, meth, c, D, cA, B, nL, Q) => ∀ (H : Heap) (locs : List Loc) (lsA : Array Slot), ja_H D cA B lay mem n H → va_S (fun q => B ≤ q) s.heap H locs → lv_has lsA nL (ja_al 0 ls) → W p l e R s m args below meth c H locs cells slots Q (F0 m pc lsA st)
def ja_F (C : ja_C) (own : String) (cc : ByteArray) (nl : Nat) (rm : Room) : Prop := match C with
  | (p, l, e, R, s, m, args, below, meth, c, D, cA, B, nL, Q) => nL = nl ∧ R = rm ∧ p.tables.exec = Jvm.exec ∧ c.code = cc ∧ c.maxLocals = nL ∧ s.vm.findClass own = some m.cls ∧ (∀ w ∈ lw_tbg, w.before args s = true) ∧ ja_K D cA s ∧ meth.locks = false ∧ B ≤ s.heap.size
section
variable {C : ja_C} {own : String} {cc : ByteArray} {nl : Nat} {rm : Room} {cells slots n : Nat} {lay : ja_Y} {mem : ja_M} {pc : Nat} {ls : List (Option Value)} {st : List Value}
theorem r_iconst (F : ja_F C own cc nl rm) {z : Int} (d : decode cc pc = .ok (.iconst z, 1)) (k : ja_W C cells slots lay mem n (pc + 1) ls (.int (ja_I z) :: st)) : ja_W C cells slots lay mem n pc ls (st) := by
  obtain ⟨p, l, e, R, s, m, args, below, meth, c, D, cA, B, nL, Q⟩ := C
  obtain ⟨hnl, hrm, hx, hb, hml, hown, hts, ⟨hK, hAO, hNw⟩, hlk, hB⟩ := F
  subst hnl; subst hrm
  intro H locs lsA hH hS hl
  exact lv_iconst hx hb d rfl (k H locs lsA hH hS hl)
theorem r_bipush (F : ja_F C own cc nl rm) {z : Int} (hz : -128 ≤ z ∧ z ≤ 127) (d : decode cc pc = .ok (.bipush z, 2)) (k : ja_W C cells slots lay mem n (pc + 2) ls (.int (ja_I z) :: st)) : ja_W C cells slots lay mem n pc ls (st) := by
  obtain ⟨p, l, e, R, s, m, args, below, meth, c, D, cA, B, nL, Q⟩ := C
  obtain ⟨hnl, hrm, hx, hb, hml, hown, hts, ⟨hK, hAO, hNw⟩, hlk, hB⟩ := F
  subst hnl; subst hrm
  intro H locs lsA hH hS hl
  exact lv_bipush hx hb d (ja_byte hz) (k H locs lsA hH hS hl)
theorem r_sipush (F : ja_F C own cc nl rm) {z : Int} (hz : -32768 ≤ z ∧ z ≤ 32767) (d : decode cc pc = .ok (.sipush z, 3)) (k : ja_W C cells slots lay mem n (pc + 3) ls (.int (ja_I z) :: st)) : ja_W C cells slots lay mem n pc ls (st) := by
  obtain ⟨p, l, e, R, s, m, args, below, meth, c, D, cA, B, nL, Q⟩ := C
  obtain ⟨hnl, hrm, hx, hb, hml, hown, hts, ⟨hK, hAO, hNw⟩, hlk, hB⟩ := F
  subst hnl; subst hrm
  intro H locs lsA hH hS hl
  exact lv_sipush hx hb d (ja_short hz) (k H locs lsA hH hS hl)
theorem r_lconst (F : ja_F C own cc nl rm) {z : Fin 2} {v : Int64} (hv : Int64.ofNat (z : Nat) = v) (d : decode cc pc = .ok (.lconst z, 1)) (k : ja_W C cells slots lay mem n (pc + 1) ls (.long v :: st)) : ja_W C cells slots lay mem n pc ls (st) := by
  obtain ⟨p, l, e, R, s, m, args, below, meth, c, D, cA, B, nL, Q⟩ := C
  obtain ⟨hnl, hrm, hx, hb, hml, hown, hts, ⟨hK, hAO, hNw⟩, hlk, hB⟩ := F
  subst hnl; subst hrm
  intro H locs lsA hH hS hl
  exact lv_lconst hx hb d hv (k H locs lsA hH hS hl)
theorem r_ldc2 (F : ja_F C own cc nl rm) {index : Nat} {v : Int64} (hw : Cond.constantLong own index v ∈ lw_tbg) (d : decode cc pc = .ok (.ldc2_w index, 3)) (k : ja_W C cells slots lay mem n (pc + 3) ls (.long v :: st)) : ja_W C cells slots lay mem n pc ls (st) := by
  obtain ⟨p, l, e, R, s, m, args, below, meth, c, D, cA, B, nL, Q⟩ := C
  obtain ⟨hnl, hrm, hx, hb, hml, hown, hts, ⟨hK, hAO, hNw⟩, hlk, hB⟩ := F
  subst hnl; subst hrm
  intro H locs lsA hH hS hl
  exact lv_ldc2 hx hb hown (hts _ hw) d (k H locs lsA hH hS hl)
theorem r_iload_n (F : ja_F C own cc nl rm) {q : Fin 4} {i : Nat} {x : Int32} (hi : (q : Nat) = i) (hv : ls[i]? = some (some (.int x))) (d : decode cc pc = .ok (.iload_n q, 1)) (k : ja_W C cells slots lay mem n (pc + 1) ls (.int x :: st)) : ja_W C cells slots lay mem n pc ls (st) := by
  obtain ⟨p, l, e, R, s, m, args, below, meth, c, D, cA, B, nL, Q⟩ := C
  obtain ⟨hnl, hrm, hx, hb, hml, hown, hts, ⟨hK, hAO, hNw⟩, hlk, hB⟩ := F
  subst hnl; subst hrm
  intro H locs lsA hH hS hl
  exact lv_iload_n hx hb d hi (ja_has_at hl hv) (k H locs lsA hH hS hl)
theorem r_iload (F : ja_F C own cc nl rm) {i : Nat} {x : Int32} (hv : ls[i]? = some (some (.int x))) (d : decode cc pc = .ok (.iload i, 2)) (k : ja_W C cells slots lay mem n (pc + 2) ls (.int x :: st)) : ja_W C cells slots lay mem n pc ls (st) := by
  obtain ⟨p, l, e, R, s, m, args, below, meth, c, D, cA, B, nL, Q⟩ := C
  obtain ⟨hnl, hrm, hx, hb, hml, hown, hts, ⟨hK, hAO, hNw⟩, hlk, hB⟩ := F
  subst hnl; subst hrm
  intro H locs lsA hH hS hl
  exact lv_iload hx hb d (ja_has_at hl hv) (k H locs lsA hH hS hl)
theorem r_lload_n (F : ja_F C own cc nl rm) {q : Fin 4} {i : Nat} {x : Int64} (hi : (q : Nat) = i) (hv : ls[i]? = some (some (.long x))) (d : decode cc pc = .ok (.lload_n q, 1)) (k : ja_W C cells slots lay mem n (pc + 1) ls (.long x :: st)) : ja_W C cells slots lay mem n pc ls (st) := by
  obtain ⟨p, l, e, R, s, m, args, below, meth, c, D, cA, B, nL, Q⟩ := C
  obtain ⟨hnl, hrm, hx, hb, hml, hown, hts, ⟨hK, hAO, hNw⟩, hlk, hB⟩ := F
  subst hnl; subst hrm
  intro H locs lsA hH hS hl
  exact lv_lload_n hx hb d hi (ja_has_at hl hv) (k H locs lsA hH hS hl)
theorem r_lload (F : ja_F C own cc nl rm) {i : Nat} {x : Int64} (hv : ls[i]? = some (some (.long x))) (d : decode cc pc = .ok (.lload i, 2)) (k : ja_W C cells slots lay mem n (pc + 2) ls (.long x :: st)) : ja_W C cells slots lay mem n pc ls (st) := by
  obtain ⟨p, l, e, R, s, m, args, below, meth, c, D, cA, B, nL, Q⟩ := C
  obtain ⟨hnl, hrm, hx, hb, hml, hown, hts, ⟨hK, hAO, hNw⟩, hlk, hB⟩ := F
  subst hnl; subst hrm
  intro H locs lsA hH hS hl
  exact lv_lload hx hb d (ja_has_at hl hv) (k H locs lsA hH hS hl)
theorem r_aload_n (F : ja_F C own cc nl rm) {q : Fin 4} {i : Nat} {x : Nat} (hi : (q : Nat) = i) (hv : ls[i]? = some (some (.ref x))) (d : decode cc pc = .ok (.aload_n q, 1)) (k : ja_W C cells slots lay mem n (pc + 1) ls (.ref x :: st)) : ja_W C cells slots lay mem n pc ls (st) := by
  obtain ⟨p, l, e, R, s, m, args, below, meth, c, D, cA, B, nL, Q⟩ := C
  obtain ⟨hnl, hrm, hx, hb, hml, hown, hts, ⟨hK, hAO, hNw⟩, hlk, hB⟩ := F
  subst hnl; subst hrm
  intro H locs lsA hH hS hl
  exact lv_aload_n hx hb d hi (ja_has_at hl hv) (k H locs lsA hH hS hl)
theorem r_aload (F : ja_F C own cc nl rm) {i : Nat} {x : Nat} (hv : ls[i]? = some (some (.ref x))) (d : decode cc pc = .ok (.aload i, 2)) (k : ja_W C cells slots lay mem n (pc + 2) ls (.ref x :: st)) : ja_W C cells slots lay mem n pc ls (st) := by
  obtain ⟨p, l, e, R, s, m, args, below, meth, c, D, cA, B, nL, Q⟩ := C
  obtain ⟨hnl, hrm, hx, hb, hml, hown, hts, ⟨hK, hAO, hNw⟩, hlk, hB⟩ := F
  subst hnl; subst hrm
  intro H locs lsA hH hS hl
  exact lv_aload hx hb d (ja_has_at hl hv) (k H locs lsA hH hS hl)
theorem ja_nL {lsA : Array Slot} {nL : Nat} {l : List (Nat × Value)} (h : lv_has lsA nL l) : lsA.size = nL := h.1
theorem r_istore_n (F : ja_F C own cc nl rm) {q : Fin 4} {i : Nat} {x : Int32} {ls' : List (Option Value)} (hi : (q : Nat) = i) (hn : i < nl) (hp : ja_pre ls i = true) (hs : (ls.set i (some (.int x))) = ls') (d : decode cc pc = .ok (.istore_n q, 1)) (k : ja_W C cells slots lay mem n (pc + 1) ls' (st)) : ja_W C cells slots lay mem n pc ls (.int x :: st) := by
  obtain ⟨p, l, e, R, s, m, args, below, meth, c, D, cA, B, nL, Q⟩ := C
  obtain ⟨hnl, hrm, hx, hb, hml, hown, hts, ⟨hK, hAO, hNw⟩, hlk, hB⟩ := F
  subst hnl; subst hrm
  intro H locs lsA hH hS hl
  subst hs
  exact lv_istore_n hx hb d hi hl hn rfl (fun ls2 h2 => k H locs ls2 hH hS (ja_has_set h2 hp))
theorem r_istore (F : ja_F C own cc nl rm) {i : Nat} {x : Int32} {ls' : List (Option Value)} (hn : i < nl) (hp : ja_pre ls i = true) (hs : (ls.set i (some (.int x))) = ls') (d : decode cc pc = .ok (.istore i, 2)) (k : ja_W C cells slots lay mem n (pc + 2) ls' (st)) : ja_W C cells slots lay mem n pc ls (.int x :: st) := by
  obtain ⟨p, l, e, R, s, m, args, below, meth, c, D, cA, B, nL, Q⟩ := C
  obtain ⟨hnl, hrm, hx, hb, hml, hown, hts, ⟨hK, hAO, hNw⟩, hlk, hB⟩ := F
  subst hnl; subst hrm
  intro H locs lsA hH hS hl
  subst hs
  exact lv_istore hx hb d hl hn rfl (fun ls2 h2 => k H locs ls2 hH hS (ja_has_set h2 hp))
theorem r_astore_n (F : ja_F C own cc nl rm) {q : Fin 4} {i : Nat} {x : Nat} {ls' : List (Option Value)} (hi : (q : Nat) = i) (hn : i < nl) (hp : ja_pre ls i = true) (hs : (ls.set i (some (.ref x))) = ls') (d : decode cc pc = .ok (.astore_n q, 1)) (k : ja_W C cells slots lay mem n (pc + 1) ls' (st)) : ja_W C cells slots lay mem n pc ls (.ref x :: st) := by
  obtain ⟨p, l, e, R, s, m, args, below, meth, c, D, cA, B, nL, Q⟩ := C
  obtain ⟨hnl, hrm, hx, hb, hml, hown, hts, ⟨hK, hAO, hNw⟩, hlk, hB⟩ := F
  subst hnl; subst hrm
  intro H locs lsA hH hS hl
  subst hs
  exact lv_astore_n hx hb d hi hl hn rfl (fun ls2 h2 => k H locs ls2 hH hS (ja_has_set h2 hp))
theorem r_astore (F : ja_F C own cc nl rm) {i : Nat} {x : Nat} {ls' : List (Option Value)} (hn : i < nl) (hp : ja_pre ls i = true) (hs : (ls.set i (some (.ref x))) = ls') (d : decode cc pc = .ok (.astore i, 2)) (k : ja_W C cells slots lay mem n (pc + 2) ls' (st)) : ja_W C cells slots lay mem n pc ls (.ref x :: st) := by
  obtain ⟨p, l, e, R, s, m, args, below, meth, c, D, cA, B, nL, Q⟩ := C
  obtain ⟨hnl, hrm, hx, hb, hml, hown, hts, ⟨hK, hAO, hNw⟩, hlk, hB⟩ := F
  subst hnl; subst hrm
  intro H locs lsA hH hS hl
  subst hs
  exact lv_astore hx hb d hl hn rfl (fun ls2 h2 => k H locs ls2 hH hS (ja_has_set h2 hp))
theorem r_lstore_n (F : ja_F C own cc nl rm) {q : Fin 4} {i : Nat} {x : Int64} {ls' : List (Option Value)} (hi : (q : Nat) = i) (hn : i + 1 < nl) (hp : ja_pre ls i = true) (hs : ((ls.set i (some (.long x))).set (i + 1) none) = ls') (d : decode cc pc = .ok (.lstore_n q, 1)) (k : ja_W C cells slots lay mem n (pc + 1) ls' (st)) : ja_W C cells slots lay mem n pc ls (.long x :: st) := by
  obtain ⟨p, l, e, R, s, m, args, below, meth, c, D, cA, B, nL, Q⟩ := C
  obtain ⟨hnl, hrm, hx, hb, hml, hown, hts, ⟨hK, hAO, hNw⟩, hlk, hB⟩ := F
  subst hnl; subst hrm
  intro H locs lsA hH hS hl
  subst hs
  exact lv_lstore_n hx hb d hi hl hn rfl (fun ls2 h2 => k H locs ls2 hH hS (ja_has_setL h2 hp))
theorem r_lstore (F : ja_F C own cc nl rm) {i : Nat} {x : Int64} {ls' : List (Option Value)} (hn : i + 1 < nl) (hp : ja_pre ls i = true) (hs : ((ls.set i (some (.long x))).set (i + 1) none) = ls') (d : decode cc pc = .ok (.lstore i, 2)) (k : ja_W C cells slots lay mem n (pc + 2) ls' (st)) : ja_W C cells slots lay mem n pc ls (.long x :: st) := by
  obtain ⟨p, l, e, R, s, m, args, below, meth, c, D, cA, B, nL, Q⟩ := C
  obtain ⟨hnl, hrm, hx, hb, hml, hown, hts, ⟨hK, hAO, hNw⟩, hlk, hB⟩ := F
  subst hnl; subst hrm
  intro H locs lsA hH hS hl
  subst hs
  exact lv_lstore hx hb d hl hn rfl (fun ls2 h2 => k H locs ls2 hH hS (ja_has_setL h2 hp))
theorem r_iinc (F : ja_F C own cc nl rm) {i : Nat} {dz x : Int} {ls' : List (Option Value)} (hv : ls[i]? = some (some (.int (ja_I x)))) (hn : i < nl) (hp : ja_pre ls i = true) (hs : ls.set i (some (.int (ja_I (x + dz)))) = ls') (d : decode cc pc = .ok (.iinc i dz, 3)) (k : ja_W C cells slots lay mem n (pc + 3) ls' (st)) : ja_W C cells slots lay mem n pc ls (st) := by
  obtain ⟨p, l, e, R, s, m, args, below, meth, c, D, cA, B, nL, Q⟩ := C
  obtain ⟨hnl, hrm, hx, hb, hml, hown, hts, ⟨hK, hAO, hNw⟩, hlk, hB⟩ := F
  subst hnl; subst hrm
  intro H locs lsA hH hS hl
  subst hs
  obtain ⟨q, hq⟩ := List.getElem?_of_mem ((ja_al_mem ls 0 (i, .int (ja_I x))).mpr ⟨i, by simp, hv⟩)
  exact lv_iinc (k := q) (v := ja_I (x + dz)) hx hb d hl hq (ja_add x dz) hn rfl (fun ls2 h2 => k H locs ls2 hH hS (ja_has_set h2 hp))
theorem r_iadd (F : ja_F C own cc nl rm) {a b : Int} (d : decode cc pc = .ok (.iadd, 1)) (k : ja_W C cells slots lay mem n (pc + 1) ls (.int (ja_I (a + b)) :: st)) : ja_W C cells slots lay mem n pc ls (.int (ja_I b) :: .int (ja_I a) :: st) := by
  obtain ⟨p, l, e, R, s, m, args, below, meth, c, D, cA, B, nL, Q⟩ := C
  obtain ⟨hnl, hrm, hx, hb, hml, hown, hts, ⟨hK, hAO, hNw⟩, hlk, hB⟩ := F
  subst hnl; subst hrm
  intro H locs lsA hH hS hl
  exact lv_iadd hx hb d (by rw [ja_add]; exact (k H locs lsA hH hS hl))
theorem r_isub (F : ja_F C own cc nl rm) {a b : Int} (d : decode cc pc = .ok (.isub, 1)) (k : ja_W C cells slots lay mem n (pc + 1) ls (.int (ja_I (a - b)) :: st)) : ja_W C cells slots lay mem n pc ls (.int (ja_I b) :: .int (ja_I a) :: st) := by
  obtain ⟨p, l, e, R, s, m, args, below, meth, c, D, cA, B, nL, Q⟩ := C
  obtain ⟨hnl, hrm, hx, hb, hml, hown, hts, ⟨hK, hAO, hNw⟩, hlk, hB⟩ := F
  subst hnl; subst hrm
  intro H locs lsA hH hS hl
  exact lv_isub hx hb d (by rw [ja_sub]; exact (k H locs lsA hH hS hl))
theorem r_imul (F : ja_F C own cc nl rm) {a b : Int} (d : decode cc pc = .ok (.imul, 1)) (k : ja_W C cells slots lay mem n (pc + 1) ls (.int (ja_I (a * b)) :: st)) : ja_W C cells slots lay mem n pc ls (.int (ja_I b) :: .int (ja_I a) :: st) := by
  obtain ⟨p, l, e, R, s, m, args, below, meth, c, D, cA, B, nL, Q⟩ := C
  obtain ⟨hnl, hrm, hx, hb, hml, hown, hts, ⟨hK, hAO, hNw⟩, hlk, hB⟩ := F
  subst hnl; subst hrm
  intro H locs lsA hH hS hl
  exact lv_imul hx hb d (by rw [ja_mul]; exact (k H locs lsA hH hS hl))
theorem r_idiv (F : ja_F C own cc nl rm) {a b : Int} (ha : ja_in a) (hbi : ja_in b) (h0 : 0 < b) (d : decode cc pc = .ok (.idiv, 1)) (k : ja_W C cells slots lay mem n (pc + 1) ls (.int (ja_I (a.tdiv b)) :: st)) : ja_W C cells slots lay mem n pc ls (.int (ja_I b) :: .int (ja_I a) :: st) := by
  obtain ⟨p, l, e, R, s, m, args, below, meth, c, D, cA, B, nL, Q⟩ := C
  obtain ⟨hnl, hrm, hx, hb, hml, hown, hts, ⟨hK, hAO, hNw⟩, hlk, hB⟩ := F
  subst hnl; subst hrm
  intro H locs lsA hH hS hl
  exact lv_idiv hx hb d (ja_ne0 hbi (by omega)) (by rw [ja_div ha hbi h0]; exact (k H locs lsA hH hS hl))
theorem r_irem (F : ja_F C own cc nl rm) {a b : Int} (ha : ja_in a) (hbi : ja_in b) (h0 : 0 < b) (d : decode cc pc = .ok (.irem, 1)) (k : ja_W C cells slots lay mem n (pc + 1) ls (.int (ja_I (a.tmod b)) :: st)) : ja_W C cells slots lay mem n pc ls (.int (ja_I b) :: .int (ja_I a) :: st) := by
  obtain ⟨p, l, e, R, s, m, args, below, meth, c, D, cA, B, nL, Q⟩ := C
  obtain ⟨hnl, hrm, hx, hb, hml, hown, hts, ⟨hK, hAO, hNw⟩, hlk, hB⟩ := F
  subst hnl; subst hrm
  intro H locs lsA hH hS hl
  exact lv_irem hx hb d (ja_ne0 hbi (by omega)) (by rw [ja_rem ha hbi h0]; exact (k H locs lsA hH hS hl))
theorem r_idivP (F : ja_F C own cc nl rm) {a b : Int} (ha : ja_in a) (hbi : ja_in b) (h0 : 0 < b) (ha0 : 0 ≤ a) (d : decode cc pc = .ok (.idiv, 1)) (k : ja_W C cells slots lay mem n (pc + 1) ls (.int (ja_I (a / b)) :: st)) : ja_W C cells slots lay mem n pc ls (.int (ja_I b) :: .int (ja_I a) :: st) := by
  obtain ⟨p, l, e, R, s, m, args, below, meth, c, D, cA, B, nL, Q⟩ := C
  obtain ⟨hnl, hrm, hx, hb, hml, hown, hts, ⟨hK, hAO, hNw⟩, hlk, hB⟩ := F
  subst hnl; subst hrm
  intro H locs lsA hH hS hl
  exact lv_idiv hx hb d (ja_ne0 hbi (by omega)) (by rw [ja_div ha hbi h0, Int.tdiv_eq_ediv_of_nonneg ha0]; exact (k H locs lsA hH hS hl))
theorem r_iremP (F : ja_F C own cc nl rm) {a b : Int} (ha : ja_in a) (hbi : ja_in b) (h0 : 0 < b) (ha0 : 0 ≤ a) (d : decode cc pc = .ok (.irem, 1)) (k : ja_W C cells slots lay mem n (pc + 1) ls (.int (ja_I (a % b)) :: st)) : ja_W C cells slots lay mem n pc ls (.int (ja_I b) :: .int (ja_I a) :: st) := by
  obtain ⟨p, l, e, R, s, m, args, below, meth, c, D, cA, B, nL, Q⟩ := C
  obtain ⟨hnl, hrm, hx, hb, hml, hown, hts, ⟨hK, hAO, hNw⟩, hlk, hB⟩ := F
  subst hnl; subst hrm
  intro H locs lsA hH hS hl
  exact lv_irem hx hb d (ja_ne0 hbi (by omega)) (by rw [ja_rem ha hbi h0, Int.tmod_eq_emod_of_nonneg ha0]; exact (k H locs lsA hH hS hl))
theorem r_ineg (F : ja_F C own cc nl rm) {a : Int} (d : decode cc pc = .ok (.ineg, 1)) (k : ja_W C cells slots lay mem n (pc + 1) ls (.int (ja_I (-a)) :: st)) : ja_W C cells slots lay mem n pc ls (.int (ja_I a) :: st) := by
  obtain ⟨p, l, e, R, s, m, args, below, meth, c, D, cA, B, nL, Q⟩ := C
  obtain ⟨hnl, hrm, hx, hb, hml, hown, hts, ⟨hK, hAO, hNw⟩, hlk, hB⟩ := F
  subst hnl; subst hrm
  intro H locs lsA hH hS hl
  exact lv_ineg hx hb d (by rw [ja_neg]; exact (k H locs lsA hH hS hl))
theorem r_iand (F : ja_F C own cc nl rm) {a b : Int32} {z : Int} (hz : a &&& b = ja_I z) (d : decode cc pc = .ok (.iand, 1)) (k : ja_W C cells slots lay mem n (pc + 1) ls (.int (ja_I z) :: st)) : ja_W C cells slots lay mem n pc ls (.int b :: .int a :: st) := by
  obtain ⟨p, l, e, R, s, m, args, below, meth, c, D, cA, B, nL, Q⟩ := C
  obtain ⟨hnl, hrm, hx, hb, hml, hown, hts, ⟨hK, hAO, hNw⟩, hlk, hB⟩ := F
  subst hnl; subst hrm
  intro H locs lsA hH hS hl
  exact lv_iand hx hb d (by rw [hz]; exact (k H locs lsA hH hS hl))
theorem r_ior (F : ja_F C own cc nl rm) {a b : Int32} {z : Int} (hz : a ||| b = ja_I z) (d : decode cc pc = .ok (.ior, 1)) (k : ja_W C cells slots lay mem n (pc + 1) ls (.int (ja_I z) :: st)) : ja_W C cells slots lay mem n pc ls (.int b :: .int a :: st) := by
  obtain ⟨p, l, e, R, s, m, args, below, meth, c, D, cA, B, nL, Q⟩ := C
  obtain ⟨hnl, hrm, hx, hb, hml, hown, hts, ⟨hK, hAO, hNw⟩, hlk, hB⟩ := F
  subst hnl; subst hrm
  intro H locs lsA hH hS hl
  exact lv_ior hx hb d (by rw [hz]; exact (k H locs lsA hH hS hl))
theorem r_ixor (F : ja_F C own cc nl rm) {a b : Int32} {z : Int} (hz : a ^^^ b = ja_I z) (d : decode cc pc = .ok (.ixor, 1)) (k : ja_W C cells slots lay mem n (pc + 1) ls (.int (ja_I z) :: st)) : ja_W C cells slots lay mem n pc ls (.int b :: .int a :: st) := by
  obtain ⟨p, l, e, R, s, m, args, below, meth, c, D, cA, B, nL, Q⟩ := C
  obtain ⟨hnl, hrm, hx, hb, hml, hown, hts, ⟨hK, hAO, hNw⟩, hlk, hB⟩ := F
  subst hnl; subst hrm
  intro H locs lsA hH hS hl
  exact lv_ixor hx hb d (by rw [hz]; exact (k H locs lsA hH hS hl))
theorem r_ishl (F : ja_F C own cc nl rm) {a b : Int32} {z : Int} (hz : a <<< (b &&& 31) = ja_I z) (d : decode cc pc = .ok (.ishl, 1)) (k : ja_W C cells slots lay mem n (pc + 1) ls (.int (ja_I z) :: st)) : ja_W C cells slots lay mem n pc ls (.int b :: .int a :: st) := by
  obtain ⟨p, l, e, R, s, m, args, below, meth, c, D, cA, B, nL, Q⟩ := C
  obtain ⟨hnl, hrm, hx, hb, hml, hown, hts, ⟨hK, hAO, hNw⟩, hlk, hB⟩ := F
  subst hnl; subst hrm
  intro H locs lsA hH hS hl
  exact lv_ishl hx hb d (by rw [hz]; exact (k H locs lsA hH hS hl))
theorem r_ladd (F : ja_F C own cc nl rm) {a b : Int64} (d : decode cc pc = .ok (.ladd, 1)) (k : ja_W C cells slots lay mem n (pc + 1) ls (.long (a + b) :: st)) : ja_W C cells slots lay mem n pc ls (.long b :: .long a :: st) := by
  obtain ⟨p, l, e, R, s, m, args, below, meth, c, D, cA, B, nL, Q⟩ := C
  obtain ⟨hnl, hrm, hx, hb, hml, hown, hts, ⟨hK, hAO, hNw⟩, hlk, hB⟩ := F
  subst hnl; subst hrm
  intro H locs lsA hH hS hl
  exact lv_ladd hx hb d (k H locs lsA hH hS hl)
theorem r_lsub (F : ja_F C own cc nl rm) {a b : Int64} (d : decode cc pc = .ok (.lsub, 1)) (k : ja_W C cells slots lay mem n (pc + 1) ls (.long (a - b) :: st)) : ja_W C cells slots lay mem n pc ls (.long b :: .long a :: st) := by
  obtain ⟨p, l, e, R, s, m, args, below, meth, c, D, cA, B, nL, Q⟩ := C
  obtain ⟨hnl, hrm, hx, hb, hml, hown, hts, ⟨hK, hAO, hNw⟩, hlk, hB⟩ := F
  subst hnl; subst hrm
  intro H locs lsA hH hS hl
  exact lv_lsub hx hb d (k H locs lsA hH hS hl)
theorem r_lmul (F : ja_F C own cc nl rm) {a b : Int64} (d : decode cc pc = .ok (.lmul, 1)) (k : ja_W C cells slots lay mem n (pc + 1) ls (.long (a * b) :: st)) : ja_W C cells slots lay mem n pc ls (.long b :: .long a :: st) := by
  obtain ⟨p, l, e, R, s, m, args, below, meth, c, D, cA, B, nL, Q⟩ := C
  obtain ⟨hnl, hrm, hx, hb, hml, hown, hts, ⟨hK, hAO, hNw⟩, hlk, hB⟩ := F
  subst hnl; subst hrm
  intro H locs lsA hH hS hl
  exact lv_lmul hx hb d (k H locs lsA hH hS hl)
theorem r_land (F : ja_F C own cc nl rm) {a b : Int64} (d : decode cc pc = .ok (.land, 1)) (k : ja_W C cells slots lay mem n (pc + 1) ls (.long (a &&& b) :: st)) : ja_W C cells slots lay mem n pc ls (.long b :: .long a :: st) := by
  obtain ⟨p, l, e, R, s, m, args, below, meth, c, D, cA, B, nL, Q⟩ := C
  obtain ⟨hnl, hrm, hx, hb, hml, hown, hts, ⟨hK, hAO, hNw⟩, hlk, hB⟩ := F
  subst hnl; subst hrm
  intro H locs lsA hH hS hl
  exact lv_land hx hb d (k H locs lsA hH hS hl)
theorem r_lor (F : ja_F C own cc nl rm) {a b : Int64} (d : decode cc pc = .ok (.lor, 1)) (k : ja_W C cells slots lay mem n (pc + 1) ls (.long (a ||| b) :: st)) : ja_W C cells slots lay mem n pc ls (.long b :: .long a :: st) := by
  obtain ⟨p, l, e, R, s, m, args, below, meth, c, D, cA, B, nL, Q⟩ := C
  obtain ⟨hnl, hrm, hx, hb, hml, hown, hts, ⟨hK, hAO, hNw⟩, hlk, hB⟩ := F
  subst hnl; subst hrm
  intro H locs lsA hH hS hl
  exact lv_lor hx hb d (k H locs lsA hH hS hl)
theorem r_lxor (F : ja_F C own cc nl rm) {a b : Int64} (d : decode cc pc = .ok (.lxor, 1)) (k : ja_W C cells slots lay mem n (pc + 1) ls (.long (a ^^^ b) :: st)) : ja_W C cells slots lay mem n pc ls (.long b :: .long a :: st) := by
  obtain ⟨p, l, e, R, s, m, args, below, meth, c, D, cA, B, nL, Q⟩ := C
  obtain ⟨hnl, hrm, hx, hb, hml, hown, hts, ⟨hK, hAO, hNw⟩, hlk, hB⟩ := F
  subst hnl; subst hrm
  intro H locs lsA hH hS hl
  exact lv_lxor hx hb d (k H locs lsA hH hS hl)
theorem r_lshl (F : ja_F C own cc nl rm) {a : Int64} {b : Int32} (d : decode cc pc = .ok (.lshl, 1)) (k : ja_W C cells slots lay mem n (pc + 1) ls (.long (a <<< (b.toInt64 &&& 63)) :: st)) : ja_W C cells slots lay mem n pc ls (.int b :: .long a :: st) := by
  obtain ⟨p, l, e, R, s, m, args, below, meth, c, D, cA, B, nL, Q⟩ := C
  obtain ⟨hnl, hrm, hx, hb, hml, hown, hts, ⟨hK, hAO, hNw⟩, hlk, hB⟩ := F
  subst hnl; subst hrm
  intro H locs lsA hH hS hl
  exact lv_lshl hx hb d rfl (k H locs lsA hH hS hl)
theorem r_lshr (F : ja_F C own cc nl rm) {a : Int64} {b : Int32} (d : decode cc pc = .ok (.lshr, 1)) (k : ja_W C cells slots lay mem n (pc + 1) ls (.long (a >>> (b.toInt64 &&& 63)) :: st)) : ja_W C cells slots lay mem n pc ls (.int b :: .long a :: st) := by
  obtain ⟨p, l, e, R, s, m, args, below, meth, c, D, cA, B, nL, Q⟩ := C
  obtain ⟨hnl, hrm, hx, hb, hml, hown, hts, ⟨hK, hAO, hNw⟩, hlk, hB⟩ := F
  subst hnl; subst hrm
  intro H locs lsA hH hS hl
  exact lv_lshr hx hb d rfl (k H locs lsA hH hS hl)
theorem r_lushr (F : ja_F C own cc nl rm) {a : Int64} {b : Int32} (d : decode cc pc = .ok (.lushr, 1)) (k : ja_W C cells slots lay mem n (pc + 1) ls (.long ((a.toUInt64 >>> (b.toInt64.toUInt64 &&& Int64.toUInt64 63)).toInt64) :: st)) : ja_W C cells slots lay mem n pc ls (.int b :: .long a :: st) := by
  obtain ⟨p, l, e, R, s, m, args, below, meth, c, D, cA, B, nL, Q⟩ := C
  obtain ⟨hnl, hrm, hx, hb, hml, hown, hts, ⟨hK, hAO, hNw⟩, hlk, hB⟩ := F
  subst hnl; subst hrm
  intro H locs lsA hH hS hl
  exact lv_lushr hx hb d rfl (k H locs lsA hH hS hl)
theorem r_i2l (F : ja_F C own cc nl rm) {a : Int32} (d : decode cc pc = .ok (.i2l, 1)) (k : ja_W C cells slots lay mem n (pc + 1) ls (.long a.toInt64 :: st)) : ja_W C cells slots lay mem n pc ls (.int a :: st) := by
  obtain ⟨p, l, e, R, s, m, args, below, meth, c, D, cA, B, nL, Q⟩ := C
  obtain ⟨hnl, hrm, hx, hb, hml, hown, hts, ⟨hK, hAO, hNw⟩, hlk, hB⟩ := F
  subst hnl; subst hrm
  intro H locs lsA hH hS hl
  exact lv_i2l hx hb d rfl (k H locs lsA hH hS hl)
theorem r_l2i (F : ja_F C own cc nl rm) {a : Int64} (d : decode cc pc = .ok (.l2i, 1)) (k : ja_W C cells slots lay mem n (pc + 1) ls (.int a.toInt32 :: st)) : ja_W C cells slots lay mem n pc ls (.long a :: st) := by
  obtain ⟨p, l, e, R, s, m, args, below, meth, c, D, cA, B, nL, Q⟩ := C
  obtain ⟨hnl, hrm, hx, hb, hml, hown, hts, ⟨hK, hAO, hNw⟩, hlk, hB⟩ := F
  subst hnl; subst hrm
  intro H locs lsA hH hS hl
  exact lv_l2i hx hb d rfl (k H locs lsA hH hS hl)
theorem r_lcmp (F : ja_F C own cc nl rm) {a b : Int64} (d : decode cc pc = .ok (.lcmp, 1)) (k : ja_W C cells slots lay mem n (pc + 1) ls (.int (lg_cmp a b) :: st)) : ja_W C cells slots lay mem n pc ls (.long b :: .long a :: st) := by
  obtain ⟨p, l, e, R, s, m, args, below, meth, c, D, cA, B, nL, Q⟩ := C
  obtain ⟨hnl, hrm, hx, hb, hml, hown, hts, ⟨hK, hAO, hNw⟩, hlk, hB⟩ := F
  subst hnl; subst hrm
  intro H locs lsA hH hS hl
  exact W.lcmp hx hb d (k H locs lsA hH hS hl)
theorem r_dup (F : ja_F C own cc nl rm) {v : Value} (hc : v.category = 1) (d : decode cc pc = .ok (.dup, 1)) (k : ja_W C cells slots lay mem n (pc + 1) ls (v :: v :: st)) : ja_W C cells slots lay mem n pc ls (v :: st) := by
  obtain ⟨p, l, e, R, s, m, args, below, meth, c, D, cA, B, nL, Q⟩ := C
  obtain ⟨hnl, hrm, hx, hb, hml, hown, hts, ⟨hK, hAO, hNw⟩, hlk, hB⟩ := F
  subst hnl; subst hrm
  intro H locs lsA hH hS hl
  exact lv_dup hx hb d hc (k H locs lsA hH hS hl)
theorem r_dup2 (F : ja_F C own cc nl rm) {u v : Value} (hu : u.category = 1) (hc : v.category = 1) (d : decode cc pc = .ok (.dup2, 1)) (k : ja_W C cells slots lay mem n (pc + 1) ls (u :: v :: u :: v :: st)) : ja_W C cells slots lay mem n pc ls (u :: v :: st) := by
  obtain ⟨p, l, e, R, s, m, args, below, meth, c, D, cA, B, nL, Q⟩ := C
  obtain ⟨hnl, hrm, hx, hb, hml, hown, hts, ⟨hK, hAO, hNw⟩, hlk, hB⟩ := F
  subst hnl; subst hrm
  intro H locs lsA hH hS hl
  exact lv_dup2_11 hx hb d hu hc (k H locs lsA hH hS hl)
theorem r_dup2L (F : ja_F C own cc nl rm) {v : Value} (hc : v.category = 2) (d : decode cc pc = .ok (.dup2, 1)) (k : ja_W C cells slots lay mem n (pc + 1) ls (v :: v :: st)) : ja_W C cells slots lay mem n pc ls (v :: st) := by
  obtain ⟨p, l, e, R, s, m, args, below, meth, c, D, cA, B, nL, Q⟩ := C
  obtain ⟨hnl, hrm, hx, hb, hml, hown, hts, ⟨hK, hAO, hNw⟩, hlk, hB⟩ := F
  subst hnl; subst hrm
  intro H locs lsA hH hS hl
  exact lv_dup2_2 hx hb d hc (k H locs lsA hH hS hl)
theorem r_pop (F : ja_F C own cc nl rm) {v : Value} (hc : v.category = 1) (d : decode cc pc = .ok (.pop, 1)) (k : ja_W C cells slots lay mem n (pc + 1) ls (st)) : ja_W C cells slots lay mem n pc ls (v :: st) := by
  obtain ⟨p, l, e, R, s, m, args, below, meth, c, D, cA, B, nL, Q⟩ := C
  obtain ⟨hnl, hrm, hx, hb, hml, hown, hts, ⟨hK, hAO, hNw⟩, hlk, hB⟩ := F
  subst hnl; subst hrm
  intro H locs lsA hH hS hl
  exact lv_pop hx hb d hc (k H locs lsA hH hS hl)
theorem r_eqi {x : Int32} {z : Int} (h : x = ja_I z) (k : ja_W C cells slots lay mem n pc ls (.int (ja_I z) :: st)) : ja_W C cells slots lay mem n pc ls (.int x :: st) := by rw [h]; exact k
theorem r_eql {x y : Int64} (h : x = y) (k : ja_W C cells slots lay mem n pc ls (.long y :: st)) : ja_W C cells slots lay mem n pc ls (.long x :: st) := by rw [h]; exact k
theorem r_eqz {x z : Int} (h : x = z) (k : ja_W C cells slots lay mem n pc ls (.int (ja_I z) :: st)) : ja_W C cells slots lay mem n pc ls (.int (ja_I x) :: st) := by rw [h]; exact k
theorem r_pc {pc' : Nat} (h : pc = pc') (k : ja_W C cells slots lay mem n pc' ls st) : ja_W C cells slots lay mem n pc ls st := h ▸ k
theorem r_mem {mem' : ja_M} (h : mem = mem') (k : ja_W C cells slots lay mem' n pc ls st) : ja_W C cells slots lay mem n pc ls st := h ▸ k
theorem r_icmp_eq (F : ja_F C own cc nl rm) {a b : Int} (ha1 : ja_in a) (hb1 : ja_in b) {off : Int} {tgt : Nat} (d : decode cc pc = .ok (.if_icmp .eq off, 3)) (ht : (pc : Int) + off = (tgt : Int)) (kt : a = b → ja_W C cells slots lay mem n tgt ls st) (kf : ¬ (a = b) → ja_W C cells slots lay mem n (pc + 3) ls st) : ja_W C cells slots lay mem n pc ls (.int (ja_I b) :: .int (ja_I a) :: st) := by
  obtain ⟨p, l, e, R, s, m, args, below, meth, c, D, cA, B, nL, Q⟩ := C
  obtain ⟨hnl, hrm, hx, hb, hml, hown, hts, ⟨hK, hAO, hNw⟩, hlk, hB⟩ := F
  subst hnl; subst hrm
  intro H locs lsA hH hS hl
  exact lv_icmp_eq hx hb d ht (fun h => kt ((ja_eq ha1 hb1).mp h) H locs lsA hH hS hl) (fun h => kf (fun q => h ((ja_eq ha1 hb1).mpr q)) H locs lsA hH hS hl)
theorem r_if_eq (F : ja_F C own cc nl rm) {a : Int} (ha1 : ja_in a) {off : Int} {tgt : Nat} (d : decode cc pc = .ok (.ifCond .eq off, 3)) (ht : (pc : Int) + off = (tgt : Int)) (kt : a = 0 → ja_W C cells slots lay mem n tgt ls st) (kf : ¬ (a = 0) → ja_W C cells slots lay mem n (pc + 3) ls st) : ja_W C cells slots lay mem n pc ls (.int (ja_I a) :: st) := by
  obtain ⟨p, l, e, R, s, m, args, below, meth, c, D, cA, B, nL, Q⟩ := C
  obtain ⟨hnl, hrm, hx, hb, hml, hown, hts, ⟨hK, hAO, hNw⟩, hlk, hB⟩ := F
  subst hnl; subst hrm
  intro H locs lsA hH hS hl
  exact lv_if_eq hx hb d ht (fun h => kt ((ja_eq ha1 ja_in0).mp h) H locs lsA hH hS hl) (fun h => kf (fun q => h ((ja_eq ha1 ja_in0).mpr q)) H locs lsA hH hS hl)
theorem r_icmp_ne (F : ja_F C own cc nl rm) {a b : Int} (ha1 : ja_in a) (hb1 : ja_in b) {off : Int} {tgt : Nat} (d : decode cc pc = .ok (.if_icmp .ne off, 3)) (ht : (pc : Int) + off = (tgt : Int)) (kt : ¬ a = b → ja_W C cells slots lay mem n tgt ls st) (kf : a = b → ja_W C cells slots lay mem n (pc + 3) ls st) : ja_W C cells slots lay mem n pc ls (.int (ja_I b) :: .int (ja_I a) :: st) := by
  obtain ⟨p, l, e, R, s, m, args, below, meth, c, D, cA, B, nL, Q⟩ := C
  obtain ⟨hnl, hrm, hx, hb, hml, hown, hts, ⟨hK, hAO, hNw⟩, hlk, hB⟩ := F
  subst hnl; subst hrm
  intro H locs lsA hH hS hl
  exact lv_icmp_ne hx hb d ht (fun h => kt (fun q => h ((ja_eq ha1 hb1).mpr q)) H locs lsA hH hS hl) (fun h => kf ((ja_eq ha1 hb1).mp h) H locs lsA hH hS hl)
theorem r_if_ne (F : ja_F C own cc nl rm) {a : Int} (ha1 : ja_in a) {off : Int} {tgt : Nat} (d : decode cc pc = .ok (.ifCond .ne off, 3)) (ht : (pc : Int) + off = (tgt : Int)) (kt : ¬ a = 0 → ja_W C cells slots lay mem n tgt ls st) (kf : a = 0 → ja_W C cells slots lay mem n (pc + 3) ls st) : ja_W C cells slots lay mem n pc ls (.int (ja_I a) :: st) := by
  obtain ⟨p, l, e, R, s, m, args, below, meth, c, D, cA, B, nL, Q⟩ := C
  obtain ⟨hnl, hrm, hx, hb, hml, hown, hts, ⟨hK, hAO, hNw⟩, hlk, hB⟩ := F
  subst hnl; subst hrm
  intro H locs lsA hH hS hl
  exact lv_if_ne hx hb d ht (fun h => kt (fun q => h ((ja_eq ha1 ja_in0).mpr q)) H locs lsA hH hS hl) (fun h => kf ((ja_eq ha1 ja_in0).mp h) H locs lsA hH hS hl)
theorem r_icmp_lt (F : ja_F C own cc nl rm) {a b : Int} (ha1 : ja_in a) (hb1 : ja_in b) {off : Int} {tgt : Nat} (d : decode cc pc = .ok (.if_icmp .lt off, 3)) (ht : (pc : Int) + off = (tgt : Int)) (kt : a < b → ja_W C cells slots lay mem n tgt ls st) (kf : ¬ (a < b) → ja_W C cells slots lay mem n (pc + 3) ls st) : ja_W C cells slots lay mem n pc ls (.int (ja_I b) :: .int (ja_I a) :: st) := by
  obtain ⟨p, l, e, R, s, m, args, below, meth, c, D, cA, B, nL, Q⟩ := C
  obtain ⟨hnl, hrm, hx, hb, hml, hown, hts, ⟨hK, hAO, hNw⟩, hlk, hB⟩ := F
  subst hnl; subst hrm
  intro H locs lsA hH hS hl
  exact lv_icmp_lt hx hb d ht (fun h => kt ((ja_lt ha1 hb1).mp h) H locs lsA hH hS hl) (fun h => kf (fun q => h ((ja_lt ha1 hb1).mpr q)) H locs lsA hH hS hl)
theorem r_if_lt (F : ja_F C own cc nl rm) {a : Int} (ha1 : ja_in a) {off : Int} {tgt : Nat} (d : decode cc pc = .ok (.ifCond .lt off, 3)) (ht : (pc : Int) + off = (tgt : Int)) (kt : a < 0 → ja_W C cells slots lay mem n tgt ls st) (kf : ¬ (a < 0) → ja_W C cells slots lay mem n (pc + 3) ls st) : ja_W C cells slots lay mem n pc ls (.int (ja_I a) :: st) := by
  obtain ⟨p, l, e, R, s, m, args, below, meth, c, D, cA, B, nL, Q⟩ := C
  obtain ⟨hnl, hrm, hx, hb, hml, hown, hts, ⟨hK, hAO, hNw⟩, hlk, hB⟩ := F
  subst hnl; subst hrm
  intro H locs lsA hH hS hl
  exact lv_if_lt hx hb d ht (fun h => kt ((ja_lt ha1 ja_in0).mp h) H locs lsA hH hS hl) (fun h => kf (fun q => h ((ja_lt ha1 ja_in0).mpr q)) H locs lsA hH hS hl)
theorem r_icmp_ge (F : ja_F C own cc nl rm) {a b : Int} (ha1 : ja_in a) (hb1 : ja_in b) {off : Int} {tgt : Nat} (d : decode cc pc = .ok (.if_icmp .ge off, 3)) (ht : (pc : Int) + off = (tgt : Int)) (kt : b ≤ a → ja_W C cells slots lay mem n tgt ls st) (kf : ¬ (b ≤ a) → ja_W C cells slots lay mem n (pc + 3) ls st) : ja_W C cells slots lay mem n pc ls (.int (ja_I b) :: .int (ja_I a) :: st) := by
  obtain ⟨p, l, e, R, s, m, args, below, meth, c, D, cA, B, nL, Q⟩ := C
  obtain ⟨hnl, hrm, hx, hb, hml, hown, hts, ⟨hK, hAO, hNw⟩, hlk, hB⟩ := F
  subst hnl; subst hrm
  intro H locs lsA hH hS hl
  exact lv_icmp_ge hx hb d ht (fun h => kt ((ja_le hb1 ha1).mp h) H locs lsA hH hS hl) (fun h => kf (fun q => h ((ja_le hb1 ha1).mpr q)) H locs lsA hH hS hl)
theorem r_if_ge (F : ja_F C own cc nl rm) {a : Int} (ha1 : ja_in a) {off : Int} {tgt : Nat} (d : decode cc pc = .ok (.ifCond .ge off, 3)) (ht : (pc : Int) + off = (tgt : Int)) (kt : 0 ≤ a → ja_W C cells slots lay mem n tgt ls st) (kf : ¬ (0 ≤ a) → ja_W C cells slots lay mem n (pc + 3) ls st) : ja_W C cells slots lay mem n pc ls (.int (ja_I a) :: st) := by
  obtain ⟨p, l, e, R, s, m, args, below, meth, c, D, cA, B, nL, Q⟩ := C
  obtain ⟨hnl, hrm, hx, hb, hml, hown, hts, ⟨hK, hAO, hNw⟩, hlk, hB⟩ := F
  subst hnl; subst hrm
  intro H locs lsA hH hS hl
  exact lv_if_ge hx hb d ht (fun h => kt ((ja_le ja_in0 ha1).mp h) H locs lsA hH hS hl) (fun h => kf (fun q => h ((ja_le ja_in0 ha1).mpr q)) H locs lsA hH hS hl)
theorem r_icmp_gt (F : ja_F C own cc nl rm) {a b : Int} (ha1 : ja_in a) (hb1 : ja_in b) {off : Int} {tgt : Nat} (d : decode cc pc = .ok (.if_icmp .gt off, 3)) (ht : (pc : Int) + off = (tgt : Int)) (kt : b < a → ja_W C cells slots lay mem n tgt ls st) (kf : ¬ (b < a) → ja_W C cells slots lay mem n (pc + 3) ls st) : ja_W C cells slots lay mem n pc ls (.int (ja_I b) :: .int (ja_I a) :: st) := by
  obtain ⟨p, l, e, R, s, m, args, below, meth, c, D, cA, B, nL, Q⟩ := C
  obtain ⟨hnl, hrm, hx, hb, hml, hown, hts, ⟨hK, hAO, hNw⟩, hlk, hB⟩ := F
  subst hnl; subst hrm
  intro H locs lsA hH hS hl
  exact lv_icmp_gt hx hb d ht (fun h => kt ((ja_lt hb1 ha1).mp h) H locs lsA hH hS hl) (fun h => kf (fun q => h ((ja_lt hb1 ha1).mpr q)) H locs lsA hH hS hl)
theorem r_if_gt (F : ja_F C own cc nl rm) {a : Int} (ha1 : ja_in a) {off : Int} {tgt : Nat} (d : decode cc pc = .ok (.ifCond .gt off, 3)) (ht : (pc : Int) + off = (tgt : Int)) (kt : 0 < a → ja_W C cells slots lay mem n tgt ls st) (kf : ¬ (0 < a) → ja_W C cells slots lay mem n (pc + 3) ls st) : ja_W C cells slots lay mem n pc ls (.int (ja_I a) :: st) := by
  obtain ⟨p, l, e, R, s, m, args, below, meth, c, D, cA, B, nL, Q⟩ := C
  obtain ⟨hnl, hrm, hx, hb, hml, hown, hts, ⟨hK, hAO, hNw⟩, hlk, hB⟩ := F
  subst hnl; subst hrm
  intro H locs lsA hH hS hl
  exact lv_if_gt hx hb d ht (fun h => kt ((ja_lt ja_in0 ha1).mp h) H locs lsA hH hS hl) (fun h => kf (fun q => h ((ja_lt ja_in0 ha1).mpr q)) H locs lsA hH hS hl)
theorem r_icmp_le (F : ja_F C own cc nl rm) {a b : Int} (ha1 : ja_in a) (hb1 : ja_in b) {off : Int} {tgt : Nat} (d : decode cc pc = .ok (.if_icmp .le off, 3)) (ht : (pc : Int) + off = (tgt : Int)) (kt : a ≤ b → ja_W C cells slots lay mem n tgt ls st) (kf : ¬ (a ≤ b) → ja_W C cells slots lay mem n (pc + 3) ls st) : ja_W C cells slots lay mem n pc ls (.int (ja_I b) :: .int (ja_I a) :: st) := by
  obtain ⟨p, l, e, R, s, m, args, below, meth, c, D, cA, B, nL, Q⟩ := C
  obtain ⟨hnl, hrm, hx, hb, hml, hown, hts, ⟨hK, hAO, hNw⟩, hlk, hB⟩ := F
  subst hnl; subst hrm
  intro H locs lsA hH hS hl
  exact lv_icmp_le hx hb d ht (fun h => kt ((ja_le ha1 hb1).mp h) H locs lsA hH hS hl) (fun h => kf (fun q => h ((ja_le ha1 hb1).mpr q)) H locs lsA hH hS hl)
theorem r_if_le (F : ja_F C own cc nl rm) {a : Int} (ha1 : ja_in a) {off : Int} {tgt : Nat} (d : decode cc pc = .ok (.ifCond .le off, 3)) (ht : (pc : Int) + off = (tgt : Int)) (kt : a ≤ 0 → ja_W C cells slots lay mem n tgt ls st) (kf : ¬ (a ≤ 0) → ja_W C cells slots lay mem n (pc + 3) ls st) : ja_W C cells slots lay mem n pc ls (.int (ja_I a) :: st) := by
  obtain ⟨p, l, e, R, s, m, args, below, meth, c, D, cA, B, nL, Q⟩ := C
  obtain ⟨hnl, hrm, hx, hb, hml, hown, hts, ⟨hK, hAO, hNw⟩, hlk, hB⟩ := F
  subst hnl; subst hrm
  intro H locs lsA hH hS hl
  exact lv_if_le hx hb d ht (fun h => kt ((ja_le ha1 ja_in0).mp h) H locs lsA hH hS hl) (fun h => kf (fun q => h ((ja_le ha1 ja_in0).mpr q)) H locs lsA hH hS hl)
theorem r_goto (F : ja_F C own cc nl rm) {off : Int} {tgt : Nat} (d : decode cc pc = .ok (.goto off, 3)) (ht : (pc : Int) + off = (tgt : Int)) (k : ja_W C cells slots lay mem n tgt ls st) : ja_W C cells slots lay mem n pc ls st := by
  obtain ⟨p, l, e, R, s, m, args, below, meth, c, D, cA, B, nL, Q⟩ := C
  obtain ⟨hnl, hrm, hx, hb, hml, hown, hts, ⟨hK, hAO, hNw⟩, hlk, hB⟩ := F
  subst hnl; subst hrm
  intro H locs lsA hH hS hl
  exact lv_goto hx hb d ht (k H locs lsA hH hS hl)
theorem r_nonnull (F : ja_F C own cc nl rm) {x : Nat} {off : Int} {tgt : Nat} (d : decode cc pc = .ok (.ifnonnull off, 3)) (ht : (pc : Int) + off = (tgt : Int)) (k : ja_W C cells slots lay mem n tgt ls st) : ja_W C cells slots lay mem n pc ls (.ref x :: st) := by
  obtain ⟨p, l, e, R, s, m, args, below, meth, c, D, cA, B, nL, Q⟩ := C
  obtain ⟨hnl, hrm, hx, hb, hml, hown, hts, ⟨hK, hAO, hNw⟩, hlk, hB⟩ := F
  subst hnl; subst hrm
  intro H locs lsA hH hS hl
  exact lv_ifnonnull hx hb d ht (k H locs lsA hH hS hl)
theorem r_nonnullN (F : ja_F C own cc nl rm) {off : Int} (d : decode cc pc = .ok (.ifnonnull off, 3)) (k : ja_W C cells slots lay mem n (pc + 3) ls st) : ja_W C cells slots lay mem n pc ls (.null :: st) := by
  obtain ⟨p, l, e, R, s, m, args, below, meth, c, D, cA, B, nL, Q⟩ := C
  obtain ⟨hnl, hrm, hx, hb, hml, hown, hts, ⟨hK, hAO, hNw⟩, hlk, hB⟩ := F
  subst hnl; subst hrm
  intro H locs lsA hH hS hl
  exact lv_ifnonnullN hx hb d (k H locs lsA hH hS hl)
theorem r_tableIn (F : ja_F C own cc nl rm) {dflt lo hi : Int} {offs : Array Int} {len : Nat} {z off : Int} {tgt : Nat} (hz : ja_in z) (d : decode cc pc = .ok (.tableswitch dflt lo hi offs, len)) (h1 : lo ≤ z) (h2 : z ≤ hi) (ho : offs[(z - lo).toNat]? = some off) (ht : (pc : Int) + off = (tgt : Int)) (k : ja_W C cells slots lay mem n tgt ls st) : ja_W C cells slots lay mem n pc ls (.int (ja_I z) :: st) := by
  obtain ⟨p, l, e, R, s, m, args, below, meth, c, D, cA, B, nL, Q⟩ := C
  obtain ⟨hnl, hrm, hx, hb, hml, hown, hts, ⟨hK, hAO, hNw⟩, hlk, hB⟩ := F
  subst hnl; subst hrm
  intro H locs lsA hH hS hl
  exact lv_tableIn hx hb d (by rw [ja_toInt hz]; omega) (by rw [ja_toInt hz]; omega) (by rw [ja_toInt hz]; exact ho) ht (k H locs lsA hH hS hl)
theorem r_tableOut (F : ja_F C own cc nl rm) {dflt lo hi : Int} {offs : Array Int} {len : Nat} {z : Int} {tgt : Nat} (hz : ja_in z) (d : decode cc pc = .ok (.tableswitch dflt lo hi offs, len)) (h1 : z < lo ∨ hi < z) (ht : (pc : Int) + dflt = (tgt : Int)) (k : ja_W C cells slots lay mem n tgt ls st) : ja_W C cells slots lay mem n pc ls (.int (ja_I z) :: st) := by
  obtain ⟨p, l, e, R, s, m, args, below, meth, c, D, cA, B, nL, Q⟩ := C
  obtain ⟨hnl, hrm, hx, hb, hml, hown, hts, ⟨hK, hAO, hNw⟩, hlk, hB⟩ := F
  subst hnl; subst hrm
  intro H locs lsA hH hS hl
  exact lv_tableOut hx hb d (by rw [ja_toInt hz]; exact h1) ht (k H locs lsA hH hS hl)
theorem r_lookup (F : ja_F C own cc nl rm) {dflt : Int} {ps : Array (Int × Int)} {len : Nat} {z off : Int} {tgt : Nat} (hz : ja_in z) (d : decode cc pc = .ok (.lookupswitch dflt ps, len)) (hp : (ps.toList.zip (ps.toList.drop 1)).all (fun (a, next) => a.1 < next.1) = true) (ho : Op.lookupswitch.offset ps.toList dflt z = off) (ht : (pc : Int) + off = (tgt : Int)) (k : ja_W C cells slots lay mem n tgt ls st) : ja_W C cells slots lay mem n pc ls (.int (ja_I z) :: st) := by
  obtain ⟨p, l, e, R, s, m, args, below, meth, c, D, cA, B, nL, Q⟩ := C
  obtain ⟨hnl, hrm, hx, hb, hml, hown, hts, ⟨hK, hAO, hNw⟩, hlk, hB⟩ := F
  subst hnl; subst hrm
  intro H locs lsA hH hS hl
  exact lv_lookup hx hb d hp (by rw [ja_toInt hz]; exact ho) ht (k H locs lsA hH hS hl)
end
end
section
/-- what the tables say of a field of class ci, place k, as class own links it at index -/
def ja_Fd (own : String) (index ci k : Nat) (ty : FieldType) (fin : Bool) : Prop := ∃ (Cn : String) (T : u_T) (N : Nat) (ty0 : Nat → FieldType), vwCl[ci]? = some (Cn, T, N) ∧ k < N ∧ (∀ w ∈ u_ws Cn T N, w ∈ lw_tbg) ∧ Cond.fieldLink own index Cn (T k).2.1 (T k).2.2.1 ∈ lw_tbg ∧ (T k).1 = Cn ∧ (∀ k, k < N → parseFieldDescriptor (T k).2.2.1 = some (ty0 k)) ∧ (∀ a, a < N → ∀ b, b < N → a ≠ b → (T a).2.1 ≠ (T b).2.1) ∧ (T k).2.2.2 = fin ∧ parseFieldDescriptor (T k).2.2.1 = some ty
def ja_FdN (own : String) (index ci k : Nat) : Prop := ∃ (Cn : String) (T : u_T) (N : Nat) (host : String), vwCl[ci]? = some (Cn, T, N) ∧ k < N ∧ (∀ w ∈ u_ws Cn T N, w ∈ lw_tbg) ∧ Cond.fieldLinkNest own index Cn (T k).2.1 (T k).2.2.1 host ∈ lw_tbl ∧ (T k).1 = Cn
theorem va_at.obj {D : va_G} {cl : List vw_C} {a ci : Nat} {fs : List Value} {H : Heap} {r : vw_C} (h : va_at D cl (a, .inr (ci, fs)) H) (hc : cl[ci]? = some r) : t_OB a (D.1 ci) r.2.2 (D.2 ci) H (vp_V fs) := by
  obtain ⟨r', h1, h2⟩ := h
  have : r' = r := Option.some.inj (h1.symm.trans hc)
  subst this
  exact h2
section
variable {C : ja_C} {own : String} {cc : ByteArray} {nl : Nat} {rm : Room} {cells slots n : Nat} {lay : ja_Y} {mem : ja_M} {pc : Nat} {ls : List (Option Value)} {st : List Value}
theorem r_getV (F : ja_F C own cc nl rm) {a ci k index : Nat} {ty : FieldType} {fin : Bool} {ds : List (Option Value)} {dv : Option Value} (f : ja_Fd own index ci k ty fin) (hy : lay a = some (.inl (ci, ds))) (hd : ds[k]? = some dv) (d : decode cc pc = .ok (.getfield index, 3)) (kk : ja_W C cells slots lay mem n (pc + 3) ls (ja_dv dv (mem a k) :: st)) : ja_W C cells slots lay mem n pc ls (.ref a :: st) := by
  obtain ⟨p, l, e, R, s, m, args, below, meth, c, D, cA, B, nL, Q⟩ := C
  obtain ⟨hnl, hrm, hx, hb, hml, hown, hts, ⟨hK, hAO, hNw⟩, hlk, hB⟩ := F
  subst hnl; subst hrm
  obtain ⟨Cn, T, N, ty0, hc, hk, hin, hlink, hsm, hty, hnm, hfin, hpd⟩ := f
  intro H locs lsA hH hS hl
  have hat := (hH.2 a _ hy).2.2
  have hP : va_P D vwCl [(a, .inr (ci, ja_fs 0 ds (mem a)))] H := fun q w hq => by
    cases q with
    | zero => cases hq; exact hat
    | succ q => simp at hq
  exact va_get hx hb hts hin hown hK hP 0 rfl hc k hk (hts _ hlink) (fun x h => by rw [hsm] at h; exact h) (ja_fs_get0 hd) d (kk H locs lsA hH hS hl)
theorem r_getVN (F : ja_F C own cc nl rm) {a ci k index : Nat} {ds : List (Option Value)} {dv : Option Value} (f : ja_FdN own index ci k) (hy : lay a = some (.inl (ci, ds))) (hd : ds[k]? = some dv) (d : decode cc pc = .ok (.getfield index, 3)) (kk : ja_W C cells slots lay mem n (pc + 3) ls (ja_dv dv (mem a k) :: st)) : ja_W C cells slots lay mem n pc ls (.ref a :: st) := by
  obtain ⟨p, l, e, R, s, m, args, below, meth, c, D, cA, B, nL, Q⟩ := C
  obtain ⟨hnl, hrm, hx, hb, hml, hown, hts, ⟨hK, hAO, hNw⟩, hlk, hB⟩ := F
  subst hnl; subst hrm
  obtain ⟨Cn, T, N, host, hc, hk, hin, hlink, hsm⟩ := f
  intro H locs lsA hH hS hl
  have hat := (hH.2 a _ hy).2.2
  have hP : va_P D vwCl [(a, .inr (ci, ja_fs 0 ds (mem a)))] H := fun q w hq => by
    cases q with
    | zero => cases hq; exact hat
    | succ q => simp at hq
  exact va_getN hx hb hts hin hown hK hP 0 rfl hc k hk (va_Nw.use rfl (hNw _ hlink rfl)) (fun x h => by rw [hsm] at h; exact h) (ja_fs_get0 hd) d (kk H locs lsA hH hS hl)
theorem r_getRN (F : ja_F C own cc nl rm) {a ci k index : Nat} {ds : List (Option Value)} {v : Value} (f : ja_FdN own index ci k) (hy : lay a = some (.inl (ci, ds))) (hd : ds[k]? = some (some v)) (d : decode cc pc = .ok (.getfield index, 3)) (kk : ja_W C cells slots lay mem n (pc + 3) ls (v :: st)) : ja_W C cells slots lay mem n pc ls (.ref a :: st) := r_getVN F f hy hd d kk
theorem r_getI (F : ja_F C own cc nl rm) {a ci k index : Nat} {ty : FieldType} {fin : Bool} {ds : List (Option Value)} (f : ja_Fd own index ci k ty fin) (hy : lay a = some (.inl (ci, ds))) (hd : ds[k]? = some none) (d : decode cc pc = .ok (.getfield index, 3)) (kk : ja_W C cells slots lay mem n (pc + 3) ls (.int (ja_I (mem a k)) :: st)) : ja_W C cells slots lay mem n pc ls (.ref a :: st) := r_getV F f hy hd d kk
theorem r_getR (F : ja_F C own cc nl rm) {a ci k index : Nat} {ty : FieldType} {fin : Bool} {ds : List (Option Value)} {v : Value} (f : ja_Fd own index ci k ty fin) (hy : lay a = some (.inl (ci, ds))) (hd : ds[k]? = some (some v)) (d : decode cc pc = .ok (.getfield index, 3)) (kk : ja_W C cells slots lay mem n (pc + 3) ls (v :: st)) : ja_W C cells slots lay mem n pc ls (.ref a :: st) := r_getV F f hy hd d kk
/-- the world behind a store into the cell a -/
theorem ja_H.upd {D : va_G} {cA : Nat → ClassId} {B n a : Nat} {lay lay' : ja_Y} {mem mem' : ja_M} {H H1 : Heap} {e' : ja_E} (h : ja_H D cA B lay mem n H) (hz : H1.size = H.size) (oq : ∀ q, q ≠ a → H1[q]? = H[q]?) (hB : B ≤ a ∧ a < n) (he : va_at D vwCl (a, ja_cell cA e' (mem' a)) H1) (hl : ∀ q e, lay' q = some e → (q = a ∧ e = e') ∨ (q ≠ a ∧ lay q = some e)) (hm : ∀ q, q ≠ a → mem' q = mem q) : ja_H D cA B lay' mem' n H1 := by
  refine ⟨hz.trans h.1, fun q e hq => ?_⟩
  rcases hl q e hq with ⟨rfl, rfl⟩ | ⟨h1, h2⟩
  · exact ⟨hB.1, hB.2, he⟩
  · obtain ⟨g1, g2, g3⟩ := h.2 q e h2
    exact ⟨g1, g2, by rw [hm q h1]; exact g3.kept (oq q h1)⟩
theorem ja_same {lay : ja_Y} {a : Nat} {e' : ja_E} (h : lay a = some e') : ∀ q e, lay q = some e → (q = a ∧ e = e') ∨ (q ≠ a ∧ lay q = some e) := by
  intro q e hq
  by_cases hqa : q = a
  · subst hqa
    rw [h] at hq
    exact Or.inl ⟨rfl, (Option.some.inj hq).symm⟩
  · exact Or.inr ⟨hqa, hq⟩
theorem ja_up_o {mem : ja_M} {a j : Nat} {z : Int} : ∀ q, q ≠ a → ja_up mem a j z q = mem q := fun q hq => ja_up_row hq
theorem r_putV (F : ja_F C own cc nl rm) {a ci k index : Nat} {ty : FieldType} {ds : List (Option Value)} {z : Int} (f : ja_Fd own index ci k ty false) (hy : lay a = some (.inl (ci, ds))) (hd : ds[k]? = some none) (hn : narrow ty (.int (ja_I z)) = .int (ja_I z)) (hfit : fits ty (.int (ja_I z)) = true) (d : decode cc pc = .ok (.putfield index, 3)) (kk : ja_W C cells slots lay (ja_up mem a k z) n (pc + 3) ls st) : ja_W C cells slots lay mem n pc ls (.int (ja_I z) :: .ref a :: st) := by
  obtain ⟨p, l, e, R, s, m, args, below, meth, c, D, cA, B, nL, Q⟩ := C
  obtain ⟨hnl, hrm, hx, hb, hml, hown, hts, ⟨hK, hAO, hNw⟩, hlk, hB⟩ := F
  subst hnl; subst hrm
  obtain ⟨Cn, T, N, ty0, hc, hk, hin, hlink, hsm, hty, hnm, hfin, hpd⟩ := f
  intro H locs lsA hH hS hl
  obtain ⟨hBa, han, hat⟩ := hH.2 a _ hy
  have hap := va_apart (own := own) hts hin ty0 hty hnm hK hc
  obtain ⟨cell, q1, q2, q3, q4⟩ := va_at.obj hat hc
  obtain ⟨hSl, hfc, kC, hkC, hkind⟩ := hK.1 ci _ hc
  obtain ⟨cf, kf, fi, fd, hi, hsl⟩ := hSl k hk
  have hlay := hts _ (hin _ (u_in_lay hk))
  unfold u_lay at hlay
  rw [if_neg (by rw [hfin]; decide)] at hlay
  have hst := (u_facts hfc hkC (u_lays hts hin hk) hi).1
  have h6 := u_store hfc hkC hkind hlay hi hpd hn hfit
  have hi' : s.fieldFound? Cn (T k).2.1 (T k).2.2.1 = some (cf, kf, fi, fd) := by have := hi; rw [hsm] at this; exact this
  refine W.putK hx hb (f := fd) ⟨hown, hts _ hlink, ⟨_, _, _, hi'⟩, hst⟩ (by rw [q2]; exact h6) q1 q3 (by rw [hsl]; exact k2_hasslot (q4 k hk)) rfl rfl d fun H' e1 e2 e3 => ?_
  rw [hsl] at e1 ⊢
  refine kk H' _ lsA (hH.upd (a := a) e2 e3 ⟨hBa, han⟩ ?_ (ja_same hy) ja_up_o) (hS.put e2 e3 hBa) hl
  refine ⟨_, hc, ?_⟩
  have h7 := t_OB.to (V' := vp_V (ja_fs 0 ds (ja_up mem a k z a))) ⟨_, e1, q2, q3, t_set q4 hap hk (.int (ja_I z))⟩ (fun j _ => by
    rw [vp_updV_set (by rw [ja_fs_len]; exact (List.getElem?_eq_some_iff.mp hd).1) (.int (ja_I z)) j, ja_fs_put hd])
  exact h7
theorem r_putI (F : ja_F C own cc nl rm) {a ci k index : Nat} {ds : List (Option Value)} {z : Int} (f : ja_Fd own index ci k .int false) (hy : lay a = some (.inl (ci, ds))) (hd : ds[k]? = some none) (d : decode cc pc = .ok (.putfield index, 3)) (kk : ja_W C cells slots lay (ja_up mem a k z) n (pc + 3) ls st) : ja_W C cells slots lay mem n pc ls (.int (ja_I z) :: .ref a :: st) := r_putV F f hy hd rfl rfl d kk
theorem r_putZ (F : ja_F C own cc nl rm) {a ci k index : Nat} {ds : List (Option Value)} {z : Int} (hz : z = 0 ∨ z = 1) (f : ja_Fd own index ci k .boolean false) (hy : lay a = some (.inl (ci, ds))) (hd : ds[k]? = some none) (d : decode cc pc = .ok (.putfield index, 3)) (kk : ja_W C cells slots lay (ja_up mem a k z) n (pc + 3) ls st) : ja_W C cells slots lay mem n pc ls (.int (ja_I z) :: .ref a :: st) := r_putV F f hy hd (by rcases hz with rfl | rfl <;> decide) (by rcases hz with rfl | rfl <;> decide) d kk
/-- a final field, by the constructor: the layout gets its value -/
def ja_ly (lay : ja_Y) (a : Nat) (e : ja_E) : ja_Y := fun q => if q = a then some e else lay q
theorem ja_ly_s (lay : ja_Y) (a : Nat) (e : ja_E) : ja_ly lay a e a = some e := by simp [ja_ly]
theorem ja_ly_n {lay : ja_Y} {a q : Nat} {e : ja_E} (h : q ≠ a) : ja_ly lay a e q = lay q := by simp [ja_ly, h]
theorem ja_ly_in {lay : ja_Y} {a : Nat} {e' : ja_E} : ∀ q e, ja_ly lay a e' q = some e → (q = a ∧ e = e') ∨ (q ≠ a ∧ lay q = some e) := by
  intro q e hq
  by_cases hqa : q = a
  · subst hqa
    rw [ja_ly_s] at hq
    exact Or.inl ⟨rfl, (Option.some.inj hq).symm⟩
  · rw [ja_ly_n hqa] at hq
    exact Or.inr ⟨hqa, hq⟩
theorem ja_fs_setY : ∀ (ds : List (Option Value)) (i : Nat) (f : Nat → Int) (k : Nat) (v : Value), (ja_fs i ds f).set k v = ja_fs i (ds.set k (some v)) f
  | [], _, _, _, _ => rfl
  | d0 :: ds, i, f, 0, v => rfl
  | d0 :: ds, i, f, k + 1, v => by
    simp only [ja_fs, List.set_cons_succ]
    rw [ja_fs_setY ds (i + 1) f k v]
theorem r_putF (F : ja_F C own cc nl rm) (hnm0 : C.2.2.2.2.2.2.2.2.1.name = "<init>") {a ci k index q : Nat} {ty : FieldType} {ds : List (Option Value)} (hfit : fits ty (.ref q) = true) (hnar : narrow ty (.ref q) = .ref q) (hdecl : vwCl[ci]?.map (·.1) = some own) (f : ja_Fd own index ci k ty true) (hy : lay a = some (.inl (ci, ds))) (hd : k < ds.length) (d : decode cc pc = .ok (.putfield index, 3)) (kk : ja_W C cells slots (ja_ly lay a (.inl (ci, ds.set k (some (.ref q))))) mem n (pc + 3) ls st) : ja_W C cells slots lay mem n pc ls (.ref q :: .ref a :: st) := by
  obtain ⟨p, l, e, R, s, m, args, below, meth, c, D, cA, B, nL, Q⟩ := C
  obtain ⟨hnl, hrm, hx, hb, hml, hown, hts, ⟨hK, hAO, hNw⟩, hlk, hB⟩ := F
  subst hnl; subst hrm
  obtain ⟨Cn, T, N, ty0, hc, hk, hin, hlink, hsm, hty, hnm, hfin, hpd⟩ := f
  intro H locs lsA hH hS hl
  obtain ⟨hBa, han, hat⟩ := hH.2 a _ hy
  have hap := va_apart (own := own) hts hin ty0 hty hnm hK hc
  obtain ⟨cell, q1, q2, q3, q4⟩ := va_at.obj hat hc
  obtain ⟨hSl, hfc, kC, hkC, hkind⟩ := hK.1 ci _ hc
  obtain ⟨cf, kf, fi, fd, hi, hsl⟩ := hSl k hk
  have hlay := hts _ (hin _ (u_in_lay hk))
  unfold u_lay at hlay
  rw [if_pos hfin] at hlay
  have hst := (u_facts hfc hkC (u_lays hts hin hk) hi).1
  have hCn : Cn = own := by
    rw [hc] at hdecl
    exact Option.some.inj hdecl
  have hcf : m.cls = cf := by
    obtain ⟨_, _, c', _, _, _, -, -, hf', -, -, -, hown2, -⟩ := Cond.laysFinal_spec hlay
    have e1 : c' = cf := by have := hi.symm.trans hf'; simp at this; exact this.1.symm
    rw [hsm, hCn] at hown2
    rw [← e1]; exact Option.some.inj (hown.symm.trans hown2)
  have h6 := u_fits hfc hkC hkind (Or.inr hlay) hi hpd hnar hfit
  have hi' : s.fieldFound? Cn (T k).2.1 (T k).2.2.1 = some (cf, kf, fi, fd) := by have := hi; rw [hsm] at this; exact this
  refine W.putFinK hx hb hown (hts _ hlink) hi' hst hcf hnm0 (by rw [q2]; exact h6) q1 q3 (by rw [hsl]; exact k2_hasslot (q4 k hk)) rfl rfl d fun H' e1 e2 e3 => ?_
  rw [hsl] at e1 ⊢
  refine kk H' _ lsA (hH.upd (a := a) (mem' := mem) (e' := .inl (ci, ds.set k (some (.ref q)))) e2 e3 ⟨hBa, han⟩ ?_ ja_ly_in (fun _ _ => rfl)) (hS.put e2 e3 hBa) hl
  refine ⟨_, hc, ?_⟩
  exact t_OB.to (V' := vp_V (ja_fs 0 (ds.set k (some (.ref q))) (mem a))) ⟨_, e1, q2, q3, t_set q4 hap hk (.ref q)⟩ (fun j _ => by
    rw [vp_updV_set (by rw [ja_fs_len]; exact hd) (.ref q) j, ja_fs_setY])
-- arrays
theorem ja_arr {cA : Nat → ClassId} {s : State} {D : va_G} (hK : va_K D vwCl (ja_tys cA) s) (t : Nat) {ca : ClassId} {ty : FieldType} (ht : (ja_tys cA)[t]? = some (ca, ty)) : ArrOfT s ca ty := (hK.2 t _ ht).1
theorem r_iald (F : ja_F C own cc nl rm) {a N : Nat} {r : Nat → Option Nat} {z : Int} (hy : lay a = some (.inr (0, N, r))) (h0 : 0 ≤ z) (h1 : z < N) (hN : N ≤ 2147483648) (d : decode cc pc = .ok (.iaload, 1)) (kk : ja_W C cells slots lay mem n (pc + 1) ls (.int (ja_I (mem a z.toNat)) :: st)) : ja_W C cells slots lay mem n pc ls (.int (ja_I z) :: .ref a :: st) := by
  obtain ⟨p, l, e, R, s, m, args, below, meth, c, D, cA, B, nL, Q⟩ := C
  obtain ⟨hnl, hrm, hx, hb, hml, hown, hts, ⟨hK, hAO, hNw⟩, hlk, hB⟩ := F
  subst hnl; subst hrm
  intro H locs lsA hH hS hl
  have hat := (hH.2 a _ hy).2.2
  have hP : va_P D vwCl [(a, .inl (cA 0, N, .inl (fun j => ja_I (mem a j))))] H := fun q w hq => by
    cases q with
    | zero => cases hq; exact hat
    | succ q => simp at hq
  have hk := kk H locs lsA hH hS hl
  rw [← ja_clamp (z := z) ⟨by omega, by omega⟩] at hk
  exact va_iald hx hb hK hP 0 0 rfl rfl (ja_vpin h0 h1 hN) d hk
theorem r_zald (F : ja_F C own cc nl rm) {a N : Nat} {r : Nat → Option Nat} {z : Int} (hy : lay a = some (.inr (2, N, r))) (h0 : 0 ≤ z) (h1 : z < N) (hN : N ≤ 2147483648) (d : decode cc pc = .ok (.baload, 1)) (kk : ja_W C cells slots lay mem n (pc + 1) ls (.int (ja_I (mem a z.toNat)) :: st)) : ja_W C cells slots lay mem n pc ls (.int (ja_I z) :: .ref a :: st) := by
  obtain ⟨p, l, e, R, s, m, args, below, meth, c, D, cA, B, nL, Q⟩ := C
  obtain ⟨hnl, hrm, hx, hb, hml, hown, hts, ⟨hK, hAO, hNw⟩, hlk, hB⟩ := F
  subst hnl; subst hrm
  intro H locs lsA hH hS hl
  have hat := (hH.2 a _ hy).2.2
  have hP : va_P D vwCl [(a, .inl (cA 2, N, .inl (fun j => ja_I (mem a j))))] H := fun q w hq => by
    cases q with
    | zero => cases hq; exact hat
    | succ q => simp at hq
  have hk := kk H locs lsA hH hS hl
  rw [← ja_clamp (z := z) ⟨by omega, by omega⟩] at hk
  exact va_zald hx hb hK hP 0 2 rfl rfl (ja_vpin h0 h1 hN) d hk
theorem r_lald (F : ja_F C own cc nl rm) {a N : Nat} {r : Nat → Option Nat} {z : Int} (hy : lay a = some (.inr (1, N, r))) (h0 : 0 ≤ z) (h1 : z < N) (hN : N ≤ 2147483648) (d : decode cc pc = .ok (.laload, 1)) (kk : ja_W C cells slots lay mem n (pc + 1) ls (.long (ja_L (mem a z.toNat)) :: st)) : ja_W C cells slots lay mem n pc ls (.int (ja_I z) :: .ref a :: st) := by
  obtain ⟨p, l, e, R, s, m, args, below, meth, c, D, cA, B, nL, Q⟩ := C
  obtain ⟨hnl, hrm, hx, hb, hml, hown, hts, ⟨hK, hAO, hNw⟩, hlk, hB⟩ := F
  subst hnl; subst hrm
  intro H locs lsA hH hS hl
  have hat := (hH.2 a _ hy).2.2
  have hP : va_P D vwCl [(a, .inl (cA 1, N, .inr (.inl (fun j => ja_L (mem a j)))))] H := fun q w hq => by
    cases q with
    | zero => cases hq; exact hat
    | succ q => simp at hq
  have hk := kk H locs lsA hH hS hl
  rw [← ja_clamp (z := z) ⟨by omega, by omega⟩] at hk
  exact va_lald hx hb hK hP 0 1 rfl rfl (ja_vpin h0 h1 hN) d hk
theorem r_aald (F : ja_F C own cc nl rm) {a N : Nat} {r : Nat → Option Nat} {z : Int} (hy : lay a = some (.inr (3, N, r))) (h0 : 0 ≤ z) (h1 : z < N) (hN : N ≤ 2147483648) (d : decode cc pc = .ok (.aaload, 1)) (kk : ja_W C cells slots lay mem n (pc + 1) ls (va_rf (r z.toNat) :: st)) : ja_W C cells slots lay mem n pc ls (.int (ja_I z) :: .ref a :: st) := by
  obtain ⟨p, l, e, R, s, m, args, below, meth, c, D, cA, B, nL, Q⟩ := C
  obtain ⟨hnl, hrm, hx, hb, hml, hown, hts, ⟨hK, hAO, hNw⟩, hlk, hB⟩ := F
  subst hnl; subst hrm
  intro H locs lsA hH hS hl
  have hat := (hH.2 a _ hy).2.2
  have hP : va_P D vwCl [(a, .inl (cA 3, N, .inr (.inr (.inr (.inr r)))))] H := fun q w hq => by
    cases q with
    | zero => cases hq; exact hat
    | succ q => simp at hq
  have hk := kk H locs lsA hH hS hl
  rw [← ja_clamp (z := z) ⟨by omega, by omega⟩] at hk
  exact va_aldq hx hb hK hP 0 3 rfl rfl (ja_vpin h0 h1 hN) d hk
theorem r_iast (F : ja_F C own cc nl rm) {a N : Nat} {r : Nat → Option Nat} {z x : Int} (hy : lay a = some (.inr (0, N, r))) (h0 : 0 ≤ z) (h1 : z < N) (hN : N ≤ 2147483648) (d : decode cc pc = .ok (.iastore, 1)) (kk : ja_W C cells slots lay (ja_up mem a z.toNat x) n (pc + 1) ls st) : ja_W C cells slots lay mem n pc ls (.int (ja_I x) :: .int (ja_I z) :: .ref a :: st) := by
  obtain ⟨p, l, e, R, s, m, args, below, meth, c, D, cA, B, nL, Q⟩ := C
  obtain ⟨hnl, hrm, hx, hb, hml, hown, hts, ⟨hK, hAO, hNw⟩, hlk, hB⟩ := F
  subst hnl; subst hrm
  intro H locs lsA hH hS hl
  obtain ⟨hBa, han, hat⟩ := hH.2 a _ hy
  refine W.iast hx hb hat ((hK.2 0 _ rfl).1 N (fun j => .int (ja_I (mem a j)))) (fun q => by cases q) (by show ¬ (_ ∨ (arrV _ _ _).slots.size ≤ _); rw [arrV_size]; exact ja_vpin h0 h1 hN) rfl rfl d fun H1 e1 e2 e3 => ?_
  refine kk H1 _ lsA (hH.upd (a := a) e2 e3 ⟨hBa, han⟩ ?_ (ja_same hy) ja_up_o) (hS.put e2 e3 hBa) hl
  show H1[a]? = some (vp_cell _ _)
  rw [e1]
  show some ((vp_cell (cA 0) (N, .inl (fun j => ja_I (mem a j)))).setSlot _ _) = some (vp_cell (cA 0) (N, .inl _))
  rw [vp_cell_i, vp_cell_i, arrV_store, ja_clamp ⟨by omega, by omega⟩]
  congr 2
  funext q
  by_cases hq : q = z.toNat
  · subst hq
    simp [updV, ja_up]
  · simp [updV, ja_up, hq]
theorem r_zast (F : ja_F C own cc nl rm) {a N : Nat} {r : Nat → Option Nat} {z x : Int} (hz : x = 0 ∨ x = 1) (hy : lay a = some (.inr (2, N, r))) (h0 : 0 ≤ z) (h1 : z < N) (hN : N ≤ 2147483648) (d : decode cc pc = .ok (.bastore, 1)) (kk : ja_W C cells slots lay (ja_up mem a z.toNat x) n (pc + 1) ls st) : ja_W C cells slots lay mem n pc ls (.int (ja_I x) :: .int (ja_I z) :: .ref a :: st) := by
  obtain ⟨p, l, e, R, s, m, args, below, meth, c, D, cA, B, nL, Q⟩ := C
  obtain ⟨hnl, hrm, hx, hb, hml, hown, hts, ⟨hK, hAO, hNw⟩, hlk, hB⟩ := F
  subst hnl; subst hrm
  intro H locs lsA hH hS hl
  obtain ⟨hBa, han, hat⟩ := hH.2 a _ hy
  refine W.zast hx hb hat ((hK.2 2 _ rfl).1 N (fun j => .int (ja_I (mem a j)))) (fun q => by cases q) (by show ¬ (_ ∨ (arrV _ _ _).slots.size ≤ _); rw [arrV_size]; exact ja_vpin h0 h1 hN) rfl rfl d fun H1 e1 e2 e3 => ?_
  refine kk H1 _ lsA (hH.upd (a := a) e2 e3 ⟨hBa, han⟩ ?_ (ja_same hy) ja_up_o) (hS.put e2 e3 hBa) hl
  show H1[a]? = some (vp_cell _ _)
  rw [e1]
  show some ((vp_cell (cA 2) (N, .inl (fun j => ja_I (mem a j)))).setSlot _ _) = some (vp_cell (cA 2) (N, .inl _))
  rw [vp_cell_i, vp_cell_i, arrV_store, ja_clamp ⟨by omega, by omega⟩]
  congr 2
  funext q
  by_cases hq : q = z.toNat
  · subst hq
    rcases hz with rfl | rfl <;> simp [updV, ja_up] <;> decide
  · simp [updV, ja_up, hq]
theorem r_last (F : ja_F C own cc nl rm) {a N : Nat} {r : Nat → Option Nat} {z : Int} {x : Int64} (hy : lay a = some (.inr (1, N, r))) (h0 : 0 ≤ z) (h1 : z < N) (hN : N ≤ 2147483648) (d : decode cc pc = .ok (.lastore, 1)) (kk : ja_W C cells slots lay (ja_up mem a z.toNat x.toInt) n (pc + 1) ls st) : ja_W C cells slots lay mem n pc ls (.long x :: .int (ja_I z) :: .ref a :: st) := by
  obtain ⟨p, l, e, R, s, m, args, below, meth, c, D, cA, B, nL, Q⟩ := C
  obtain ⟨hnl, hrm, hx, hb, hml, hown, hts, ⟨hK, hAO, hNw⟩, hlk, hB⟩ := F
  subst hnl; subst hrm
  intro H locs lsA hH hS hl
  obtain ⟨hBa, han, hat⟩ := hH.2 a _ hy
  refine W.last hx hb hat ((hK.2 1 _ rfl).1 N (fun j => .long (ja_L (mem a j)))) (fun q => by cases q) (by show ¬ (_ ∨ (arrV _ _ _).slots.size ≤ _); rw [arrV_size]; exact ja_vpin h0 h1 hN) rfl rfl d fun H1 e1 e2 e3 => ?_
  refine kk H1 _ lsA (hH.upd (a := a) e2 e3 ⟨hBa, han⟩ ?_ (ja_same hy) ja_up_o) (hS.put e2 e3 hBa) hl
  show H1[a]? = some (vp_cell _ _)
  rw [e1]
  show some ((vp_cell (cA 1) (N, .inr (.inl (fun j => ja_L (mem a j))))).setSlot _ _) = some (vp_cell (cA 1) (N, .inr (.inl _)))
  rw [vp_cell_l, vp_cell_l, arrV_store, ja_clamp ⟨by omega, by omega⟩]
  congr 2
  funext q
  by_cases hq : q = z.toNat
  · subst hq
    simp [updV, ja_up, ja_Lof]
  · simp [updV, ja_up, hq]
end
end
section
-- what is made
def ja_zr (mem : ja_M) (a : Nat) : ja_M := fun q j => if q = a then 0 else mem q j
theorem ja_zr_s (mem : ja_M) (a j : Nat) : ja_zr mem a a j = 0 := by simp [ja_zr]
theorem ja_zr_n {mem : ja_M} {a q : Nat} (h : q ≠ a) : ja_zr mem a q = mem q := by funext j; simp [ja_zr, h]
def ja_New (own : String) (index ci N : Nat) (ds : List (Option Value)) : Prop := ∃ (Cn : String) (T : u_T) (ty0 : Nat → FieldType), vwCl[ci]? = some (Cn, T, N) ∧ (∀ w ∈ u_ws Cn T N, w ∈ lw_tbg) ∧ (∀ k, k < N → parseFieldDescriptor (T k).2.2.1 = some (ty0 k)) ∧ Cond.classLink own index Cn ∈ lw_tbg ∧ Cond.instantiable Cn N ∈ lw_tbg ∧ Cond.initialized Cn ∈ lw_tbg ∧ ∀ j, j < N → defaultValue (ty0 j) = vp_V (ja_fs 0 ds (fun _ => 0)) j
theorem ja_H.push {D : va_G} {cA : Nat → ClassId} {B n : Nat} {lay : ja_Y} {mem : ja_M} {H H1 : Heap} {e' : ja_E} (h : ja_H D cA B lay mem n H) (hB : B ≤ n) (hz : H1.size = n + 1) (oq : ∀ q, q < n → H1[q]? = H[q]?) (he : va_at D vwCl (n, ja_cell cA e' (fun _ => 0)) H1) : ja_H D cA B (ja_ly lay n e') (ja_zr mem n) (n + 1) H1 := by
  refine ⟨hz, fun q e hq => ?_⟩
  rcases ja_ly_in q e hq with ⟨rfl, rfl⟩ | ⟨h1, h2⟩
  · exact ⟨hB, by omega, by rw [show ja_zr mem q q = (fun _ => 0) from funext fun j => ja_zr_s mem q j]; exact he⟩
  · obtain ⟨g1, g2, g3⟩ := h.2 q e h2
    exact ⟨g1, by omega, by rw [ja_zr_n h1]; exact g3.kept (oq q g2)⟩
section
variable {C : ja_C} {own : String} {cc : ByteArray} {nl : Nat} {rm : Room} {cells slots n : Nat} {lay : ja_Y} {mem : ja_M} {pc : Nat} {ls : List (Option Value)} {st : List Value}
theorem r_new (F : ja_F C own cc nl rm) {index ci N : Nat} {ds : List (Option Value)} (f : ja_New own index ci N ds) (hc1 : cells + 1 ≤ rm.cells) (hs1 : slots + N ≤ rm.slots) (d : decode cc pc = .ok (.new index, 3)) (kk : ja_W C (cells + 1) (slots + N) (ja_ly lay n (.inl (ci, ds))) (ja_zr mem n) (n + 1) (pc + 3) ls (.ref n :: st)) : ja_W C cells slots lay mem n pc ls st := by
  obtain ⟨p, l, e, R, s, m, args, below, meth, c, D, cA, B, nL, Q⟩ := C
  obtain ⟨hnl, hrm, hx, hb, hml, hown, hts, ⟨hK, hAO, hNw⟩, hlk, hB⟩ := F
  subst hnl; subst hrm
  obtain ⟨Cn, T, ty0, hc, hin, hty, hcl, hins, hini, hdef⟩ := f
  intro H locs lsA hH hS hl
  have hKn := hK.1 ci _ hc
  have hBn : B ≤ n := by have := hS.1; rw [hH.1] at this; omega
  refine W.newcK hx hb hown (hts _ hcl) (hts _ hins) (hts _ hini) rfl d hc1 hs1 hKn.2.1 hH.1 fun H1 kC hkC e1 z1 o1 => ?_
  refine kk H1 locs lsA (hH.push hBn z1 o1 ⟨_, hc, (u_born ty0 hts hin hKn hkC e1 hty).to hdef⟩) ⟨by have := hS.1; have := hH.1; omega, fun x h1 h2 => (o1 x (by have := hS.1; have := hH.1; omega)).trans (hS.2.1 x h1 h2), hS.2.2⟩ hl
theorem r_newa (F : ja_F C own cc nl rm) {atype : ArrayType} {kd : Nat} {z : Int} (hw : Cond.arrayClass (newarray.typeOf atype) ∈ lw_tbg) (hkd : kd < 3) (hty : (ja_tys (fun q => q))[kd]?.map (·.2) = some (newarray.typeOf atype)) (h0 : 0 ≤ z) (hb1 : z ≤ 60000000) (hc1 : cells + 1 ≤ rm.cells) (hs1 : slots + z.toNat ≤ rm.slots) (d : decode cc pc = .ok (.newarray atype, 2)) (kk : ja_W C (cells + 1) (slots + z.toNat) (ja_ly lay n (.inr (kd, z.toNat, fun _ => none))) (ja_zr mem n) (n + 1) (pc + 2) ls (.ref n :: st)) : ja_W C cells slots lay mem n pc ls (.int (ja_I z) :: st) := by
  obtain ⟨p, l, e, R, s, m, args, below, meth, c, D, cA, B, nL, Q⟩ := C
  obtain ⟨hnl, hrm, hx, hb, hml, hown, hts, ⟨hK, hAO, hNw⟩, hlk, hB⟩ := F
  subst hnl; subst hrm
  intro H locs lsA hH hS hl
  have hBn : B ≤ n := by have := hS.1; rw [hH.1] at this; omega
  have hzi : ja_in z := ⟨by omega, by omega⟩
  have hcb : componentBytes (newarray.typeOf atype) ≤ 8 := by cases atype <;> decide
  refine va_newaK hx hb (hts _ hw) rfl d rfl (by rw [ja_zero, ja_lt hzi ja_in0]; omega) (ja_clamp hzi) (Nat.le_trans (Nat.mul_le_mul_left _ hcb) (by omega)) hc1 hs1 hH.1 fun H1 ca e1 z1 o1 hAr hNm => ?_
  have hca : ca = cA kd := by
    have hk : ∃ ty, (ja_tys cA)[kd]? = some (cA kd, ty) ∧ newarray.typeOf atype = ty ∧ (ty = .int ∨ ty = .long ∨ ty = .boolean) := by
      match kd, hkd, hty with
      | 0, _, hty => exact ⟨.int, rfl, (Option.some.inj hty).symm, Or.inl rfl⟩
      | 1, _, hty => exact ⟨.long, rfl, (Option.some.inj hty).symm, Or.inr (Or.inl rfl)⟩
      | 2, _, hty => exact ⟨.boolean, rfl, (Option.some.inj hty).symm, Or.inr (Or.inr rfl)⟩
    obtain ⟨ty, h1, h2, h3⟩ := hk
    have h4 := (hK.2 kd _ h1).2
    rw [h2] at hNm
    rcases h3 with rfl | rfl | rfl <;> exact Option.some.inj (hNm.symm.trans h4)
  subst hca
  refine kk H1 locs lsA (hH.push hBn z1 o1 ?_) ⟨by have := hS.1; have := hH.1; omega, fun x h1 h2 => (o1 x (by have := hS.1; have := hH.1; omega)).trans (hS.2.1 x h1 h2), hS.2.2⟩ hl
  match kd, hkd, hty with
  | 0, _, hty => rw [show newarray.typeOf atype = .int from (Option.some.inj hty).symm] at e1; exact e1
  | 1, _, hty => rw [show newarray.typeOf atype = .long from (Option.some.inj hty).symm] at e1; exact e1
  | 2, _, hty => rw [show newarray.typeOf atype = .boolean from (Option.some.inj hty).symm] at e1; exact e1
theorem r_newq (F : ja_F C own cc nl rm) {index : Nat} {z : Int} (hw : Cond.classLink own index RX5 ∈ lw_tbg) (h0 : 0 ≤ z) (hb1 : z ≤ 60000000) (hc1 : cells + 1 ≤ rm.cells) (hs1 : slots + z.toNat ≤ rm.slots) (d : decode cc pc = .ok (.anewarray index, 3)) (kk : ja_W C (cells + 1) (slots + z.toNat) (ja_ly lay n (.inr (3, z.toNat, fun _ => none))) (ja_zr mem n) (n + 1) (pc + 3) ls (.ref n :: st)) : ja_W C cells slots lay mem n pc ls (.int (ja_I z) :: st) := by
  obtain ⟨p, l, e, R, s, m, args, below, meth, c, D, cA, B, nL, Q⟩ := C
  obtain ⟨hnl, hrm, hx, hb, hml, hown, hts, ⟨hK, hAO, hNw⟩, hlk, hB⟩ := F
  subst hnl; subst hrm
  intro H locs lsA hH hS hl
  have hBn : B ≤ n := by have := hS.1; rw [hH.1] at this; omega
  have hzi : ja_in z := ⟨by omega, by omega⟩
  have hk2 := kk
  rw [← ja_clamp hzi] at hk2 hs1
  refine W.anew hx hb hown (hts _ hw) (va_AO.use hAO) rfl d rfl (by rw [ja_zero, ja_lt hzi ja_in0]; omega) (by rw [ja_clamp hzi]; omega) hc1 hs1 fun ca kA comp f1 f2 f3 f4 => ?_
  generalize hH1 : H.push ({ cls := ca, slots := Array.replicate (ja_I z).toNatClampNeg .null, vm := .none } : Cell) = H1
  have z1 : H1.size = n + 1 := by rw [← hH1, Array.size_push, hH.1]
  have e1 : H1[n]? = some (arrV ca (ja_I z).toNatClampNeg (fun _ => .null)) := by rw [← hH1, ← hH.1, Array.getElem?_push_size, ← arrV_new]
  have o1 : ∀ q : Nat, q < n → H1[q]? = H[q]? := fun q hq => by rw [← hH1, Array.getElem?_push, if_neg (by rw [hH.1]; omega)]
  have hca : ca = cA 3 := by
    obtain ⟨kA', comp', g1, g2, g3, g4⟩ := (hK.2 3 _ rfl).2
    exact Option.some.inj (f1.symm.trans g4)
  subst hca
  have hk3 := hk2 H1 locs lsA (hH.push hBn z1 o1 e1) ⟨by have := hS.1; have := hH.1; omega, fun x h1 h2 => (o1 x (by have := hS.1; have := hH.1; omega)).trans (hS.2.1 x h1 h2), hS.2.2⟩ hl
  rw [← hH.1] at hk3
  exact hk3
theorem r_aast (F : ja_F C own cc nl rm) {a v N : Nat} {r : Nat → Option Nat} {z : Int} {ds : List (Option Value)} (hy : lay a = some (.inr (3, N, r))) (hv : lay v = some (.inl (5, ds))) (h0 : 0 ≤ z) (h1 : z < N) (hN : N ≤ 2147483648) (d : decode cc pc = .ok (.aastore, 1)) (kk : ja_W C cells slots (ja_ly lay a (.inr (3, N, va_up r z.toNat (some v)))) mem n (pc + 1) ls st) : ja_W C cells slots lay mem n pc ls (.ref v :: .int (ja_I z) :: .ref a :: st) := by
  obtain ⟨p, l, e, R, s, m, args, below, meth, c, D, cA, B, nL, Q⟩ := C
  obtain ⟨hnl, hrm, hx, hb, hml, hown, hts, ⟨hK, hAO, hNw⟩, hlk, hB⟩ := F
  subst hnl; subst hrm
  intro H locs lsA hH hS hl
  obtain ⟨hBa, han, hat⟩ := hH.2 a _ hy
  obtain ⟨hBv, hvn, hav⟩ := hH.2 v _ hv
  have hin := ja_vpin h0 h1 hN
  have hlt : (ja_I z).toNatClampNeg < N := Nat.not_le.mp fun q => hin (Or.inr q)
  have h00 : ¬ ja_I z < 0 := fun q => hin (Or.inl q)
  obtain ⟨cellV, g1, g2, g3, -⟩ := va_at.obj (r := (RX5, TX5, 9)) hav rfl
  have hcls := (hK.1 5 (RX5, TX5, 9) rfl).2
  obtain ⟨kA, comp, k1, k2, k3, -⟩ := (hK.2 3 _ rfl).2
  have hcomp : comp = D.1 5 := Option.some.inj (k3.symm.trans hcls.1)
  subst hcomp
  obtain ⟨kC, hkC, -⟩ := hcls.2
  refine W.aast hx hb hat (fun q h => by cases h) (fun h => by cases h) k1 k2 rfl hkC ⟨h00, by show _ < (arrV _ _ _).slots.size; rw [arrV_size]; exact hlt⟩ g1 (fun q h => by rw [g3] at h; cases h) (by rw [g2]; exact hkC) (by rw [g2]; exact va_assign hcls) rfl rfl d fun H1 e1 e2 e3 => ?_
  refine kk H1 _ lsA (hH.upd (a := a) (mem' := mem) (e' := .inr (3, N, va_up r z.toNat (some v))) e2 e3 ⟨hBa, han⟩ ?_ ja_ly_in (fun _ _ => rfl)) (hS.put e2 e3 hBa) hl
  show H1[a]? = some (vp_cell _ _)
  rw [e1]
  show some ((vp_cell (cA 3) (N, .inr (.inr (.inr (.inr r))))).setSlot _ _) = some (vp_cell (cA 3) (N, .inr (.inr (.inr (.inr _)))))
  rw [vp_cell_q, vp_cell_q, arrV_store, ja_clamp ⟨by omega, by omega⟩]
  congr 2
  funext q
  by_cases hq : q = z.toNat
  · subst hq
    simp [updV, va_up, va_rf]
  · simp [updV, va_up, hq]
theorem r_objinit (F : ja_F C own cc nl rm) {a index : Nat} (hw : Cond.methodLink own index objectInit ∈ lw_tbg) (hst : (st.map fun v => v.category).sum ≤ 8) (hfr : 1 ≤ rm.frames) (hlo : 20 ≤ rm.locals) (d : decode cc pc = .ok (.invokespecial index, 3)) (kk : ja_W C cells slots lay mem n (pc + 3) ls st) : ja_W C cells slots lay mem n pc ls (.ref a :: st) := by
  obtain ⟨p, l, e, R, s, m, args, below, meth, c, D, cA, B, nL, Q⟩ := C
  obtain ⟨hnl, hrm, hx, hb, hml, hown, hts, ⟨hK, hAO, hNw⟩, hlk, hB⟩ := F
  subst hnl; subst hrm
  intro H locs lsA hH hS hl
  refine W.objInit hx hb hown (hts _ hw) (hts (.instanceMethod objectInit) (by decide +kernel)) (hts (.code objectInit ⟨#[0xb1]⟩ 1 none) (by decide +kernel)) rfl (by rw [hml]; exact hl.1) rfl d hfr (by show 2 * 0 + _ + _ ≤ _; omega) ?_
  exact kk H locs lsA hH hS hl
-- arraycopy
def ja_cp (mem : ja_M) (a0 a1 sp dp k : Nat) : ja_M := fun q j => if q = a1 ∧ dp ≤ j ∧ j < dp + k then mem a0 (sp + (j - dp)) else mem q j
theorem ja_cp_o {mem : ja_M} {a0 a1 sp dp k : Nat} : ∀ q, q ≠ a1 → ja_cp mem a0 a1 sp dp k q = mem q := fun q hq => by funext j; simp [ja_cp, hq]
theorem ja_cpy {mem : ja_M} {a0 a1 sp dp k : Nat} : ja_cp mem a0 a1 sp dp k a1 = va_cpy (mem a0) (mem a1) sp dp k := by funext j; simp [ja_cp, va_cpy]
theorem ja_cpyf {α : Type} (h : Int → α) (f g : Nat → Int) (sp dp k : Nat) : (fun j => h (va_cpy f g sp dp k j)) = va_cpy (fun j => h (f j)) (fun j => h (g j)) sp dp k := by funext j; unfold va_cpy; split <;> rfl
theorem ja_two {D : va_G} {cA : Nat → ClassId} {B n : Nat} {lay : ja_Y} {mem : ja_M} {H : Heap} (hH : ja_H D cA B lay mem n H) {a0 a1 : Nat} {e0 e1 : ja_E} (h0 : lay a0 = some e0) (h1 : lay a1 = some e1) : va_P D vwCl [(a0, ja_cell cA e0 (mem a0)), (a1, ja_cell cA e1 (mem a1))] H := fun q w hq => by
  match q, hq with
  | 0, hq => cases hq; exact (hH.2 a0 _ h0).2.2
  | 1, hq => cases hq; exact (hH.2 a1 _ h1).2.2
  | q + 2, hq => simp at hq
end
end
section
section
variable {C : ja_C} {own : String} {cc : ByteArray} {nl : Nat} {rm : Room} {cells slots n : Nat} {lay : ja_Y} {mem : ja_M} {pc : Nat} {ls : List (Option Value)} {st : List Value}
theorem r_copy0 (F : ja_F C own cc nl rm) {a0 a1 n0 n1 index : Nat} {r0 r1 : Nat → Option Nat} {z : Int} (hw1 : Cond.methodLink own index arraycopyName ∈ lw_tbg) (hy0 : lay a0 = some (.inr (0, n0, r0))) (hy1 : lay a1 = some (.inr (0, n1, r1))) (hz0 : 0 ≤ z) (hz1 : z ≤ n0) (hz2 : z ≤ n1) (hz3 : z < 2147483648) (hst : (st.map fun v => v.category).sum ≤ 8) (hfr : 1 ≤ rm.frames) (hlo : 40 ≤ rm.locals) (d : decode cc pc = .ok (.invokestatic index, 3)) (kk : ja_W C cells slots lay (ja_cp mem a0 a1 0 0 z.toNat) n (pc + 3) ls st) : ja_W C cells slots lay mem n pc ls (.int (ja_I z) :: .int (ja_I 0) :: .ref a1 :: .int (ja_I 0) :: .ref a0 :: st) := by
  obtain ⟨p, l, e, R, s, m, args, below, meth, c, D, cA, B, nL, Q⟩ := C
  obtain ⟨hnl, hrm, hx, hb, hml, hown, hts, ⟨hK, hAO, hNw⟩, hlk, hB⟩ := F
  subst hnl; subst hrm
  intro H locs lsA hH hS hl T hT X
  have hzi : ja_in z := ⟨by omega, by omega⟩
  have hzc := ja_clamp hzi
  have hnw : nativeFrameWords "java/lang/System" "arraycopy" 5 + 11 ≤ 32 := by decide +kernel
  have h0c : (ja_I 0).toNatClampNeg = 0 := ja_clamp ja_in0
  have h0t : (ja_I 0).toInt = 0 := ja_toInt ja_in0
  obtain ⟨hBa, han, hc1⟩ := hH.2 a1 _ hy1
  have hc0 : H[a0]? = some (vp_cell (cA 0) (n0, .inl (fun j => ja_I (mem a0 j)))) := (hH.2 a0 _ hy0).2.2
  have hc1 : H[a1]? = some (vp_cell (cA 0) (n1, .inl (fun j => ja_I (mem a1 j)))) := hc1
  obtain ⟨-, k0, hk0, cm0, hkk0⟩ := (hK.2 0 _ rfl).1 n0 (fun j => .int (ja_I (mem a0 j)))
  obtain ⟨-, k1, hk1, cm1, hkk1⟩ := (hK.2 0 _ rfl).1 n1 (fun j => .int (ja_I (mem a1 j)))
  obtain ⟨vm', X', step⟩ := X.arraycopy hx hown (hts _ hw1) (hts (.native arraycopyName) (by decide +kernel)) (hts (.static arraycopyName) (by decide +kernel)) (hts (.initialized "java/lang/System") (by decide +kernel)) (src := a0) (dst := a1) (cs := vp_cell (cA 0) (n0, .inl (fun j => ja_I (mem a0 j)))) (cd := vp_cell (cA 0) (n1, .inl (fun j => ja_I (mem a1 j)))) (srcPos := ja_I 0) (destPos := ja_I 0) (n := ja_I z) (by rw [hT]; exact hc0) (by rw [hT]; exact hc1)
    (fun _ h => by cases h) (fun _ h => by cases h) (fun h => by cases h) (fun h => by cases h) hk0 hk1 hkk0 hkk1 (by simp [refKind]) (by decide) (by decide) (by rw [ja_zero, ja_lt hzi ja_in0]; omega)
    (by rw [h0t, ja_toInt hzi]; show ¬ _ > ((arrV (cA 0) n0 _).slots.size : Int); rw [arrV_size]; omega)
    (by rw [h0t, ja_toInt hzi]; show ¬ _ > ((arrV (cA 0) n1 _).slots.size : Int); rw [arrV_size]; omega)
    (fun vm₁ _ i hi => by
      rw [hzc] at hi
      have e : (vp_cell (cA 0) (n0, .inl (fun j => ja_I (mem a0 j)))).slots.getD ((ja_I 0).toNatClampNeg + i) .null = .int (ja_I (mem a0 (0 + i))) := by
        rw [h0c]
        show (arrV (cA 0) n0 (fun j => .int (ja_I (mem a0 j)))).slots.getD _ _ = _
        rw [Array.getD_eq_getD_getElem?, arrV_read _ _ (by omega)]
        rfl
      refine ⟨?_, ?_⟩
      · rw [e]
        rfl
      · rw [e]
        exact trivial)
    (g := F0 m pc lsA (.int (ja_I z) :: .int (ja_I 0) :: .ref a1 :: .int (ja_I 0) :: .ref a0 :: st)) rfl (by rw [hml]; exact hl.1) (rest := st) rfl (by rw [hb]; exact d) hfr (by show 2 * 0 + _ + _ ≤ _; omega)
  have e1 : copied (vp_cell (cA 0) (n0, .inl (fun j => ja_I (mem a0 j)))) (vp_cell (cA 0) (n1, .inl (fun j => ja_I (mem a1 j)))) (ja_I 0) (ja_I 0) (ja_I z) = vp_cell (cA 0) (n1, .inl (fun j => ja_I (ja_cp mem a0 a1 0 0 z.toNat a1 j))) := by
    have := va_copied (n0 := n0) (n1 := n1) (fun z => Value.int z) (cA 0) (cA 0) (fun j => ja_I (mem a0 j)) (fun j => ja_I (mem a1 j)) (sp := (ja_I 0).toNatClampNeg) (dp := (ja_I 0).toNatClampNeg) (n := (ja_I z).toNatClampNeg) (by rw [h0c, hzc]; omega)
    rw [ja_cpy, ja_cpyf ja_I]
    rw [h0c, hzc] at this
    refine Eq.trans ?_ this
    show copied _ _ _ _ _ = _
    unfold copied
    rw [h0c, hzc]
    rfl
  rw [e1] at X' step
  have hla : a1 < H.size := (Array.getElem?_eq_some_iff.mp hc1).1
  generalize hcell : vp_cell (cA 0) (n1, .inl (fun j => ja_I (ja_cp mem a0 a1 0 0 z.toNat a1 j))) = newc at X' step
  have hheap : ((T.setVm vm').setCell a1 newc).heap = H.setIfInBounds a1 newc := by rw [← hT]; rfl
  have oq : ∀ q : Nat, q ≠ a1 → (H.setIfInBounds a1 newc)[q]? = H[q]? := fun q hq => by simp [Array.getElem?_setIfInBounds, Ne.symm hq]
  have hself : (H.setIfInBounds a1 newc)[a1]? = some newc := by simp [Array.getElem?_setIfInBounds, hla]
  obtain ⟨t, a2, b1⟩ := kk (H.setIfInBounds a1 newc) _ lsA (hH.upd (a := a1) (e' := .inr (0, n1, r1)) (by simp) oq ⟨hBa, han⟩ (show (H.setIfInBounds a1 newc)[a1]? = some (vp_cell (cA 0) (n1, .inl (fun j => ja_I (ja_cp mem a0 a1 0 0 z.toNat a1 j)))) by rw [hself, hcell]) (ja_same hy1) ja_cp_o) ⟨by simp; exact hS.1, fun q g1 g2 => by
      rw [oq q (fun e => g2 (by rw [e]; exact hBa))]
      exact hS.2.1 q g1 g2, fun q hq => by
      rcases List.mem_append.mp hq with h | h
      · exact hS.2.2 q h
      · obtain ⟨z, -, hz⟩ := List.mem_map.mp h
        rw [← hz]
        exact hBa⟩ hl _ hheap X'
  exact ⟨t, step t a2, b1⟩
theorem r_copy1 (F : ja_F C own cc nl rm) {a0 a1 n0 n1 index : Nat} {r0 r1 : Nat → Option Nat} {z : Int} (hw1 : Cond.methodLink own index arraycopyName ∈ lw_tbg) (hy0 : lay a0 = some (.inr (1, n0, r0))) (hy1 : lay a1 = some (.inr (1, n1, r1))) (hz0 : 0 ≤ z) (hz1 : z ≤ n0) (hz2 : z ≤ n1) (hz3 : z < 2147483648) (hst : (st.map fun v => v.category).sum ≤ 8) (hfr : 1 ≤ rm.frames) (hlo : 40 ≤ rm.locals) (d : decode cc pc = .ok (.invokestatic index, 3)) (kk : ja_W C cells slots lay (ja_cp mem a0 a1 0 0 z.toNat) n (pc + 3) ls st) : ja_W C cells slots lay mem n pc ls (.int (ja_I z) :: .int (ja_I 0) :: .ref a1 :: .int (ja_I 0) :: .ref a0 :: st) := by
  obtain ⟨p, l, e, R, s, m, args, below, meth, c, D, cA, B, nL, Q⟩ := C
  obtain ⟨hnl, hrm, hx, hb, hml, hown, hts, ⟨hK, hAO, hNw⟩, hlk, hB⟩ := F
  subst hnl; subst hrm
  intro H locs lsA hH hS hl T hT X
  have hzi : ja_in z := ⟨by omega, by omega⟩
  have hzc := ja_clamp hzi
  have hnw : nativeFrameWords "java/lang/System" "arraycopy" 5 + 11 ≤ 32 := by decide +kernel
  have h0c : (ja_I 0).toNatClampNeg = 0 := ja_clamp ja_in0
  have h0t : (ja_I 0).toInt = 0 := ja_toInt ja_in0
  obtain ⟨hBa, han, hc1⟩ := hH.2 a1 _ hy1
  have hc0 : H[a0]? = some (vp_cell (cA 1) (n0, .inr (.inl (fun j => ja_L (mem a0 j))))) := (hH.2 a0 _ hy0).2.2
  have hc1 : H[a1]? = some (vp_cell (cA 1) (n1, .inr (.inl (fun j => ja_L (mem a1 j))))) := hc1
  obtain ⟨-, k0, hk0, cm0, hkk0⟩ := (hK.2 1 _ rfl).1 n0 (fun j => .long (ja_L (mem a0 j)))
  obtain ⟨-, k1, hk1, cm1, hkk1⟩ := (hK.2 1 _ rfl).1 n1 (fun j => .long (ja_L (mem a1 j)))
  obtain ⟨vm', X', step⟩ := X.arraycopy hx hown (hts _ hw1) (hts (.native arraycopyName) (by decide +kernel)) (hts (.static arraycopyName) (by decide +kernel)) (hts (.initialized "java/lang/System") (by decide +kernel)) (src := a0) (dst := a1) (cs := vp_cell (cA 1) (n0, .inr (.inl (fun j => ja_L (mem a0 j))))) (cd := vp_cell (cA 1) (n1, .inr (.inl (fun j => ja_L (mem a1 j))))) (srcPos := ja_I 0) (destPos := ja_I 0) (n := ja_I z) (by rw [hT]; exact hc0) (by rw [hT]; exact hc1)
    (fun _ h => by cases h) (fun _ h => by cases h) (fun h => by cases h) (fun h => by cases h) hk0 hk1 hkk0 hkk1 (by simp [refKind]) (by decide) (by decide) (by rw [ja_zero, ja_lt hzi ja_in0]; omega)
    (by rw [h0t, ja_toInt hzi]; show ¬ _ > ((arrV (cA 1) n0 _).slots.size : Int); rw [arrV_size]; omega)
    (by rw [h0t, ja_toInt hzi]; show ¬ _ > ((arrV (cA 1) n1 _).slots.size : Int); rw [arrV_size]; omega)
    (fun vm₁ _ i hi => by
      rw [hzc] at hi
      have e : (vp_cell (cA 1) (n0, .inr (.inl (fun j => ja_L (mem a0 j))))).slots.getD ((ja_I 0).toNatClampNeg + i) .null = .long (ja_L (mem a0 (0 + i))) := by
        rw [h0c]
        show (arrV (cA 1) n0 (fun j => .long (ja_L (mem a0 j)))).slots.getD _ _ = _
        rw [Array.getD_eq_getD_getElem?, arrV_read _ _ (by omega)]
        rfl
      refine ⟨?_, ?_⟩
      · rw [e]
        rfl
      · rw [e]
        exact trivial)
    (g := F0 m pc lsA (.int (ja_I z) :: .int (ja_I 0) :: .ref a1 :: .int (ja_I 0) :: .ref a0 :: st)) rfl (by rw [hml]; exact hl.1) (rest := st) rfl (by rw [hb]; exact d) hfr (by show 2 * 0 + _ + _ ≤ _; omega)
  have e1 : copied (vp_cell (cA 1) (n0, .inr (.inl (fun j => ja_L (mem a0 j))))) (vp_cell (cA 1) (n1, .inr (.inl (fun j => ja_L (mem a1 j))))) (ja_I 0) (ja_I 0) (ja_I z) = vp_cell (cA 1) (n1, .inr (.inl (fun j => ja_L (ja_cp mem a0 a1 0 0 z.toNat a1 j)))) := by
    have := va_copied (n0 := n0) (n1 := n1) (fun z => Value.long z) (cA 1) (cA 1) (fun j => ja_L (mem a0 j)) (fun j => ja_L (mem a1 j)) (sp := (ja_I 0).toNatClampNeg) (dp := (ja_I 0).toNatClampNeg) (n := (ja_I z).toNatClampNeg) (by rw [h0c, hzc]; omega)
    rw [ja_cpy, ja_cpyf ja_L]
    rw [h0c, hzc] at this
    refine Eq.trans ?_ this
    show copied _ _ _ _ _ = _
    unfold copied
    rw [h0c, hzc]
    rfl
  rw [e1] at X' step
  have hla : a1 < H.size := (Array.getElem?_eq_some_iff.mp hc1).1
  generalize hcell : vp_cell (cA 1) (n1, .inr (.inl (fun j => ja_L (ja_cp mem a0 a1 0 0 z.toNat a1 j)))) = newc at X' step
  have hheap : ((T.setVm vm').setCell a1 newc).heap = H.setIfInBounds a1 newc := by rw [← hT]; rfl
  have oq : ∀ q : Nat, q ≠ a1 → (H.setIfInBounds a1 newc)[q]? = H[q]? := fun q hq => by simp [Array.getElem?_setIfInBounds, Ne.symm hq]
  have hself : (H.setIfInBounds a1 newc)[a1]? = some newc := by simp [Array.getElem?_setIfInBounds, hla]
  obtain ⟨t, a2, b1⟩ := kk (H.setIfInBounds a1 newc) _ lsA (hH.upd (a := a1) (e' := .inr (1, n1, r1)) (by simp) oq ⟨hBa, han⟩ (show (H.setIfInBounds a1 newc)[a1]? = some (vp_cell (cA 1) (n1, .inr (.inl (fun j => ja_L (ja_cp mem a0 a1 0 0 z.toNat a1 j))))) by rw [hself, hcell]) (ja_same hy1) ja_cp_o) ⟨by simp; exact hS.1, fun q g1 g2 => by
      rw [oq q (fun e => g2 (by rw [e]; exact hBa))]
      exact hS.2.1 q g1 g2, fun q hq => by
      rcases List.mem_append.mp hq with h | h
      · exact hS.2.2 q h
      · obtain ⟨z, -, hz⟩ := List.mem_map.mp h
        rw [← hz]
        exact hBa⟩ hl _ hheap X'
  exact ⟨t, step t a2, b1⟩
end
end
section
-- contracts
abbrev ja_P : Type := Option Value → ja_Y → ja_M → Nat → Prop
def ja_Qc (B : Nat) (D : va_G) (cA : Nat → ClassId) (post : ja_P) : Array Value → State → Outcome → State → Prop := fun _ st o t => (∃ (v : Option Value) (lay' : ja_Y) (mem' : ja_M) (n' : Nat), o = .returned v ∧ post v lay' mem' n' ∧ ja_H D cA B lay' mem' n' t.heap) ∧ va_F (fun q => B ≤ q) st t
def ja_Pc (B : Nat) (D : va_G) (cA : Nat → ClassId) (av : List Value) (lay : ja_Y) (mem : ja_M) (n : Nat) : Array Value → State → Prop := va_Pc av (fun U => ja_H D cA B lay mem n U.heap ∧ ja_K D cA U ∧ B ≤ U.heap.size)
def ja_ws (y : MethodName) (cc : ByteArray) (nL : Nat) (ret : Option FieldType) : List Cond := Cond.code y cc nL ret :: lw_tbg
/-- the contract of a method: its room, its arguments, the world at its start, what holds at its end -/
def ja_Mt (l : Launch) (D : va_G) (cA : Nat → ClassId) (B : Nat) (y : MethodName) (cc : ByteArray) (nL : Nat) (ret : Option FieldType) (rm : Room) (av : List Value) (lay : ja_Y) (mem : ja_M) (n : Nat) (post : ja_P) : Prop := Met l y (ja_ws y cc nL ret) rm (ja_Pc B D cA av lay mem n) (ja_Qc B D cA post) rm.cells rm.slots (fun q => B ≤ q)
/-- what a walk's end must be -/
def ja_R (C : ja_C) (ret : Option FieldType) (rm : Room) (post : ja_P) : Prop := match C with
  | (p, l, e, R, s, m, args, below, meth, c, D, cA, B, nL, Q) => meth.sig.returnType = ret ∧ Q = MQ below (ja_Qc B D cA post) args s rm.cells rm.slots (fun q => B ≤ q)
/-- the parts of a walk that its calls speak of -/
def ja_G (C : ja_C) (l0 : Launch) (D0 : va_G) (cA0 : Nat → ClassId) (B0 : Nat) : Prop := match C with
  | (p, l, e, R, s, m, args, below, meth, c, D, cA, B, nL, Q) => l = l0 ∧ D = D0 ∧ cA = cA0 ∧ B = B0
theorem ja_enter {l : Launch} {D : va_G} {cA : Nat → ClassId} {B : Nat} {y : MethodName} {cc : ByteArray} {nL : Nat} {ret : Option FieldType} {rm : Room} {av : List Value} {lay : ja_Y} {mem : ja_M} {n : Nat} {post : ja_P} (ls : List (Option Value)) (hy : plainName y.cls = true) (hlen : (lg_sl av).length ≤ nL) (hls : ∀ q ∈ ja_al 0 ls, q ∈ lv_args 0 av)
    (body : ∀ C : ja_C, ja_F C y.cls cc nL rm → ja_R C ret rm post → ja_G C l D cA B → C.2.2.2.2.2.2.2.2.1.name = y.name → ja_W C 0 0 lay mem n 0 ls []) : ja_Mt l D cA B y cc nL ret rm av lay mem n post := by
  refine Met.ofW (cc := cc) (maxL := nL) (ret := ret) hy rfl ?_
  intro p e s m args below meth c s₁ Bd hml hv
  obtain ⟨rfl, hH, hK, hB⟩ := hv
  have hx := Bd.exec
  have hb := Bd.bytes
  have hr := Bd.returns
  have hts0 := atoms_spec (ws := ja_ws y cc nL ret) Bd.pre
  have hts : ∀ w ∈ lw_tbg, w.before av.toArray s = true := fun w hw => hts0 w (List.mem_cons_of_mem _ hw)
  have hown : s.vm.findClass y.cls = some m.cls := findClass_of_methodNamed Bd.named
  have hlocks := Bd.notSynchronized
  have hname : meth.name = y.name := (name_of_methodNamed Bd.named Bd.method).1
  have hl := lv_entry av hlen
  rw [lg_entry_eq]
  generalize (lg_sl av ++ List.replicate (nL - (lg_sl av).length) Slot.unset).toArray = lsA at hl ⊢
  have h := body (p, l, e, rm, s, m, av.toArray, below, meth, c, D, cA, B, nL, MQ below (ja_Qc B D cA post) av.toArray s rm.cells rm.slots (fun q => B ≤ q)) ⟨rfl, rfl, hx, hb, hml, hown, hts, hK, hlocks, hB⟩ ⟨hr, rfl⟩ ⟨rfl, rfl, rfl, rfl⟩ hname
  exact h s.heap [] lsA hH va_S.rf (ja_has_sub hl hls)
theorem lw_good : lw_tbg.all goodWord = true := List.all_eq_true.mpr fun w hw => (List.mem_filter.mp hw).2
theorem ja_goodIn {ws : List Cond} (h : ∀ w ∈ ws, w ∈ lw_tbg) : GoodIn lw_tbg ws := fun w hw => ⟨h w hw, good_of_word (List.all_eq_true.mp lw_good w (h w hw))⟩
/-- a call's words: the link, the callee's code -/
def ja_Cv (own : String) (index : Nat) (y : MethodName) (cc : ByteArray) (nL : Nat) (ret : Option FieldType) (na : Nat) : Prop := Cond.methodLink own index y ∈ lw_tbg ∧ Cond.instanceMethod y ∈ lw_tbg ∧ Cond.selects y.cls y y ∈ lw_tbg ∧ Cond.initialized y.cls ∈ lw_tbg ∧ Cond.code y cc nL ret ∈ lw_tbg ∧ y.cls ≠ "java/lang/invoke/MethodHandle" ∧ y.cls ≠ "java/lang/invoke/VarHandle" ∧ (parseMethodDescriptor y.desc).map (fun d => d.parameters.length) = some na
def ja_Cs (own : String) (index : Nat) (y : MethodName) (cc : ByteArray) (nL : Nat) (ret : Option FieldType) (na : Nat) : Prop := Cond.methodLink own index y ∈ lw_tbg ∧ Cond.static y ∈ lw_tbg ∧ Cond.initialized y.cls ∈ lw_tbg ∧ Cond.code y cc nL ret ∈ lw_tbg ∧ y.cls ≠ "java/lang/invoke/MethodHandle" ∧ y.cls ≠ "java/lang/invoke/VarHandle" ∧ (parseMethodDescriptor y.desc).map (fun d => d.parameters.length) = some na
def ja_Ci (own : String) (index : Nat) (y : MethodName) (cc : ByteArray) (nL : Nat) (na : Nat) : Prop := Cond.methodLink own index y ∈ lw_tbg ∧ Cond.instanceMethod y ∈ lw_tbg ∧ Cond.initialized y.cls ∈ lw_tbg ∧ Cond.code y cc nL none ∈ lw_tbg ∧ y.cls ≠ "java/lang/invoke/MethodHandle" ∧ y.cls ≠ "java/lang/invoke/VarHandle" ∧ (parseMethodDescriptor y.desc).map (fun d => d.parameters.length) = some na ∧ y.name = "<init>"
def ja_CiN (own : String) (index : Nat) (y : MethodName) (cc : ByteArray) (nL : Nat) (na : Nat) : Prop := (∃ host : String, Cond.methodLinkNest own index y host ∈ lw_tbl) ∧ Cond.instanceMethod y ∈ lw_tbg ∧ Cond.initialized y.cls ∈ lw_tbg ∧ Cond.code y cc nL none ∈ lw_tbg ∧ y.cls ≠ "java/lang/invoke/MethodHandle" ∧ y.cls ≠ "java/lang/invoke/VarHandle" ∧ (parseMethodDescriptor y.desc).map (fun d => d.parameters.length) = some na ∧ y.name = "<init>"
theorem ja_blind {B : Nat} {D : va_G} {cA : Nat → ClassId} {av : List Value} {lay : ja_Y} {mem : ja_M} {n : Nat} : FrameBlind (ja_Pc B D cA av lay mem n) := fun a U g mk h => ⟨h.1, h.2.1, ja_K.call g mk a h.2.2.1, h.2.2.2⟩
theorem ja_back {p : Program} {l : Launch} {e : Env} {R : Room} {s : State} {m : MethodId} {args : Array Value} {below : List Frame} {meth : Method} {c : Code} {H : Heap} {locs : List Loc} {cells slots mc ms pc : Nat} {Q : State → Prop} {lsA : Array Slot} {st0 rest : List Value} {a : Array Value} {B : Nat} {D : va_G} {cA : Nat → ClassId} {post : ja_P}
    (hr : va_Run p l e R s m args below meth c H locs cells slots mc ms (F0 m pc lsA st0) rest (ja_Qc B D cA post a) (fun q => B ≤ q)) (hS : va_S (fun q => B ≤ q) s.heap H locs)
    (kk : ∀ (v : Option Value) (lay' : ja_Y) (mem' : ja_M) (n' : Nat) (H1 : Heap) (locs1 : List Loc), post v lay' mem' n' → ja_H D cA B lay' mem' n' H1 → va_S (fun q => B ≤ q) s.heap H1 locs1 → W p l e R s m args below meth c H1 locs1 (cells + mc) (slots + ms) Q (F0 m (pc + 3) lsA (v.toList ++ rest))) : W p l e R s m args below meth c H locs cells slots Q (F0 m pc lsA st0) := by
  intro T hT X
  obtain ⟨v, st₀, t, T', L, h0, X', hL, e1, e2, ⟨⟨v', lay', mem', n', hv, hp, hH⟩, hz, hk⟩, st⟩ := hr T hT X
  cases hv
  rw [h0] at hz hk
  obtain ⟨t2, a1, b1⟩ := kk v lay' mem' n' T'.heap (locs ++ L) hp (by rw [e1]; exact hH)
    ⟨Nat.le_trans hS.1 (by rw [e1]; exact hz), fun q h1 h2 => by rw [e1, hk q (Nat.lt_of_lt_of_le h1 hS.1) h2]; exact hS.2.1 q h1 h2, fun q hq => by
      rcases List.mem_append.mp hq with h | h
      · exact hS.2.2 q h
      · exact hL q h⟩ T' rfl X'
  exact ⟨t2, st t2 a1, b1⟩
section
variable {C : ja_C} {own : String} {cc : ByteArray} {nl : Nat} {rm : Room} {cells slots n : Nat} {lay : ja_Y} {mem : ja_M} {pc : Nat} {ls : List (Option Value)} {st : List Value}
theorem r_callV (F : ja_F C own cc nl rm) {l0 : Launch} {D0 : va_G} {cA0 : Nat → ClassId} {B0 : Nat} (G : ja_G C l0 D0 cA0 B0) {y : MethodName} {cc' : ByteArray} {nL' : Nat} {ret' : Option FieldType} {rm' : Room} {As : List Value} {a index ci na : Nat} {ds : List (Option Value)} {post : ja_P} (hM : ja_Mt l0 D0 cA0 B0 y cc' nL' ret' rm' (.ref a :: As) lay mem n post) (f : ja_Cv own index y cc' nL' ret' na) (hna : As.length = na) (hy : lay a = some (.inl (ci, ds))) (hcl : vwCl[ci]?.map (·.1) = some y.cls) (hR : rm'.frames + 1 ≤ rm.frames ∧ 8 + (nL' + 11) + rm'.locals ≤ rm.locals) (hcs : cells + rm'.cells ≤ rm.cells ∧ slots + rm'.slots ≤ rm.slots) (hst : (st.map fun v => v.category).sum ≤ 8) {st0 : List Value} (he : st0 = As.reverse ++ .ref a :: st) (d : decode cc pc = .ok (.invokevirtual index, 3))
    (kk : ∀ (v : Option Value) (lay' : ja_Y) (mem' : ja_M) (n' : Nat), post v lay' mem' n' → ja_W C (cells + rm'.cells) (slots + rm'.slots) lay' mem' n' (pc + 3) ls (v.toList ++ st)) : ja_W C cells slots lay mem n pc ls st0 := by
  subst he
  obtain ⟨p, l, e, R, s, m, args, below, meth, c, D, cA, B, nL, Q⟩ := C
  obtain ⟨hnl, hrm, hx, hb, hml, hown, hts, ⟨hK, hAO, hNw⟩, hlk, hB⟩ := F
  obtain ⟨rfl, rfl, rfl, rfl⟩ := G
  subst hnl; subst hrm
  obtain ⟨f1, f2, f3, f4, f5, f6, f7, f8⟩ := f
  intro H locs lsA hH hS hl
  have hat := (hH.2 a _ hy).2.2
  have hP : va_P D vwCl [(a, .inr (ci, ja_fs 0 ds (mem a)))] H := fun q w hq => by
    cases q with
    | zero => cases hq; exact hat
    | succ q => simp at hq
  obtain ⟨r, hr1, hr2⟩ := Option.map_eq_some_iff.mp hcl
  have hrecv := va_recv hK hP hr1 (q0 := 0) rfl
  rw [hr2] at hrecv
  have hG : GoodIn lw_tbg (wsV own index y.cls y (ja_ws y cc' nL' ret')) := ja_goodIn (fun w hw => by
    rcases List.mem_append.mp hw with h | h
    · simp only [List.mem_cons, List.not_mem_nil, or_false] at h
      rcases h with rfl | rfl | rfl | rfl
      · exact f1
      · exact f2
      · exact f3
      · exact f4
    · rcases List.mem_cons.mp h with rfl | h
      · exact f5
      · exact h)
  have cw := cwV (R := R) (s := s) (args := args) (rm := rm') (mc := rm'.cells) (ms := rm'.slots) (ws' := lw_tbg) na hts hG rfl rfl rfl ⟨rfl, f6, f7, f8⟩ hR
  refine ja_back (va_runV (As := As) (rest := st) ⟨hx, hb, hml, hown, hts⟩ hM cw ⟨ja_blind, hrecv, fun U hU hW => ⟨rfl, by rw [hU]; exact hH, ja_K.warm hW ⟨hK, hAO, hNw⟩, by rw [hU]; exact Nat.le_trans hB hS.1⟩⟩ rfl hna hl.1 rfl (lv_room hst) d hcs) hS ?_
  intro v lay' mem' n' H1 locs1 hp hH1 hS1
  exact kk v lay' mem' n' hp H1 locs1 lsA hH1 hS1 hl
theorem r_callS (F : ja_F C own cc nl rm) {l0 : Launch} {D0 : va_G} {cA0 : Nat → ClassId} {B0 : Nat} (G : ja_G C l0 D0 cA0 B0) {y : MethodName} {cc' : ByteArray} {nL' : Nat} {ret' : Option FieldType} {rm' : Room} {As : List Value} {index na : Nat} {post : ja_P} (hM : ja_Mt l0 D0 cA0 B0 y cc' nL' ret' rm' As lay mem n post) (f : ja_Cs own index y cc' nL' ret' na) (hna : As.length = na) (hR : rm'.frames + 1 ≤ rm.frames ∧ 8 + (nL' + 11) + rm'.locals ≤ rm.locals) (hcs : cells + rm'.cells ≤ rm.cells ∧ slots + rm'.slots ≤ rm.slots) (hst : (st.map fun v => v.category).sum ≤ 8) {st0 : List Value} (he : st0 = As.reverse ++ st) (d : decode cc pc = .ok (.invokestatic index, 3))
    (kk : ∀ (v : Option Value) (lay' : ja_Y) (mem' : ja_M) (n' : Nat), post v lay' mem' n' → ja_W C (cells + rm'.cells) (slots + rm'.slots) lay' mem' n' (pc + 3) ls (v.toList ++ st)) : ja_W C cells slots lay mem n pc ls st0 := by
  subst he
  obtain ⟨p, l, e, R, s, m, args, below, meth, c, D, cA, B, nL, Q⟩ := C
  obtain ⟨hnl, hrm, hx, hb, hml, hown, hts, ⟨hK, hAO, hNw⟩, hlk, hB⟩ := F
  obtain ⟨rfl, rfl, rfl, rfl⟩ := G
  subst hnl; subst hrm
  obtain ⟨f1, f2, f4, f5, f6, f7, f8⟩ := f
  intro H locs lsA hH hS hl
  have hG : GoodIn lw_tbg (va_wsS own index y (ja_ws y cc' nL' ret')) := ja_goodIn (fun w hw => by
    rcases List.mem_append.mp hw with h | h
    · simp only [List.mem_cons, List.not_mem_nil, or_false] at h
      rcases h with rfl | rfl | rfl
      · exact f1
      · exact f2
      · exact f4
    · rcases List.mem_cons.mp h with rfl | h
      · exact f5
      · exact h)
  have cw := va_cwS (R := R) (s := s) (args := args) (rm := rm') (mc := rm'.cells) (ms := rm'.slots) (ws' := lw_tbg) na hts hG rfl rfl rfl ⟨f6, f7, f8⟩ hR
  refine ja_back (va_runS (As := As) (rest := st) ⟨hx, hb, hml, hown, hts⟩ hM cw ⟨ja_blind, fun U hU hW => ⟨rfl, by rw [hU]; exact hH, ja_K.warm hW ⟨hK, hAO, hNw⟩, by rw [hU]; exact Nat.le_trans hB hS.1⟩⟩ rfl hna hl.1 rfl (lv_room hst) d hcs) hS ?_
  intro v lay' mem' n' H1 locs1 hp hH1 hS1
  exact kk v lay' mem' n' hp H1 locs1 lsA hH1 hS1 hl
theorem r_callI (F : ja_F C own cc nl rm) {l0 : Launch} {D0 : va_G} {cA0 : Nat → ClassId} {B0 : Nat} (G : ja_G C l0 D0 cA0 B0) {y : MethodName} {cc' : ByteArray} {nL' : Nat} {rm' : Room} {As : List Value} {a index na : Nat} {post : ja_P} (hM : ja_Mt l0 D0 cA0 B0 y cc' nL' none rm' (.ref a :: As) lay mem n post) (f : ja_Ci own index y cc' nL' na) (hna : As.length = na) (hR : rm'.frames + 1 ≤ rm.frames ∧ 8 + (nL' + 11) + rm'.locals ≤ rm.locals) (hcs : cells + rm'.cells ≤ rm.cells ∧ slots + rm'.slots ≤ rm.slots) (hst : (st.map fun v => v.category).sum ≤ 8) {st0 : List Value} (he : st0 = As.reverse ++ .ref a :: st) (d : decode cc pc = .ok (.invokespecial index, 3))
    (kk : ∀ (v : Option Value) (lay' : ja_Y) (mem' : ja_M) (n' : Nat), post v lay' mem' n' → ja_W C (cells + rm'.cells) (slots + rm'.slots) lay' mem' n' (pc + 3) ls (v.toList ++ st)) : ja_W C cells slots lay mem n pc ls st0 := by
  subst he
  obtain ⟨p, l, e, R, s, m, args, below, meth, c, D, cA, B, nL, Q⟩ := C
  obtain ⟨hnl, hrm, hx, hb, hml, hown, hts, ⟨hK, hAO, hNw⟩, hlk, hB⟩ := F
  obtain ⟨rfl, rfl, rfl, rfl⟩ := G
  subst hnl; subst hrm
  obtain ⟨f1, f2, f4, f5, f6, f7, f8, f9⟩ := f
  intro H locs lsA hH hS hl
  have hG : GoodIn lw_tbg (ja_ws y cc' nL' none) := ja_goodIn (fun w hw => by
    rcases List.mem_cons.mp hw with rfl | h
    · exact f5
    · exact h)
  have cw := cwI (own := own) (index := index) (R := R) (s := s) (args := args) (rm := rm') (mc := rm'.cells) (ms := rm'.slots) (ws' := lw_tbg) na hts hG rfl rfl rfl (hts _ f4) (hts _ f1) (hts _ f2) f9 ⟨f6, f7, f8⟩ hR
  refine ja_back (va_runI (As := As) (rest := st) ⟨hx, hb, hml, hown, hts⟩ hM cw ⟨ja_blind, fun U hU hW => ⟨rfl, by rw [hU]; exact hH, ja_K.warm hW ⟨hK, hAO, hNw⟩, by rw [hU]; exact Nat.le_trans hB hS.1⟩⟩ rfl hna hl.1 rfl (lv_room hst) d hcs) hS ?_
  intro v lay' mem' n' H1 locs1 hp hH1 hS1
  exact kk v lay' mem' n' hp H1 locs1 lsA hH1 hS1 hl
theorem r_callIN (F : ja_F C own cc nl rm) {l0 : Launch} {D0 : va_G} {cA0 : Nat → ClassId} {B0 : Nat} (G : ja_G C l0 D0 cA0 B0) {y : MethodName} {cc' : ByteArray} {nL' : Nat} {rm' : Room} {As : List Value} {a index na : Nat} {post : ja_P} (hM : ja_Mt l0 D0 cA0 B0 y cc' nL' none rm' (.ref a :: As) lay mem n post) (f : ja_CiN own index y cc' nL' na) (hna : As.length = na) (hR : rm'.frames + 1 ≤ rm.frames ∧ 8 + (nL' + 11) + rm'.locals ≤ rm.locals) (hcs : cells + rm'.cells ≤ rm.cells ∧ slots + rm'.slots ≤ rm.slots) (hst : (st.map fun v => v.category).sum ≤ 8) {st0 : List Value} (he : st0 = As.reverse ++ .ref a :: st) (d : decode cc pc = .ok (.invokespecial index, 3))
    (kk : ∀ (v : Option Value) (lay' : ja_Y) (mem' : ja_M) (n' : Nat), post v lay' mem' n' → ja_W C (cells + rm'.cells) (slots + rm'.slots) lay' mem' n' (pc + 3) ls (v.toList ++ st)) : ja_W C cells slots lay mem n pc ls st0 := by
  subst he
  obtain ⟨p, l, e, R, s, m, args, below, meth, c, D, cA, B, nL, Q⟩ := C
  obtain ⟨hnl, hrm, hx, hb, hml, hown, hts, ⟨hK, hAO, hNw⟩, hlk, hB⟩ := F
  obtain ⟨rfl, rfl, rfl, rfl⟩ := G
  subst hnl; subst hrm
  obtain ⟨⟨host, f1⟩, f2, f4, f5, f6, f7, f8, f9⟩ := f
  intro H locs lsA hH hS hl
  have hG : GoodIn lw_tbg (ja_ws y cc' nL' none) := ja_goodIn (fun w hw => by
    rcases List.mem_cons.mp hw with rfl | h
    · exact f5
    · exact h)
  have cw := va_cnB (own := own) (host := host) (index := index) (R := R) (s := s) (args := args) (rm := rm') (mc := rm'.cells) (ms := rm'.slots) (ws' := lw_tbg) na hts hG rfl rfl rfl (hNw _ f1 rfl) (hts _ f4) ⟨f6, f7, f8⟩ hR
  refine ja_back (va_runIN (As := As) (rest := st) ⟨hx, hb, hml, hown, hts⟩ hM ⟨cw, f9, hts _ f2⟩ ⟨ja_blind, fun U hU hW => ⟨rfl, by rw [hU]; exact hH, ja_K.warm hW ⟨hK, hAO, hNw⟩, by rw [hU]; exact Nat.le_trans hB hS.1⟩⟩ rfl hna hl.1 rfl (lv_room hst) d hcs) hS ?_
  intro v lay' mem' n' H1 locs1 hp hH1 hS1
  exact kk v lay' mem' n' hp H1 locs1 lsA hH1 hS1 hl
-- Math
theorem ja_ite {a b : Int} {c : Prop} [Decidable c] : (if c then ja_I a else ja_I b) = ja_I (if c then a else b) := by split <;> rfl
theorem r_mmax (F : ja_F C own cc nl rm) {a b : Int} {index : Nat} (ha : ja_in a) (hb1 : ja_in b) (hw : Cond.methodLink own index Lib.Math.max.name ∈ lw_tbg) (hst : (st.map fun v => v.category).sum ≤ 8) (hfr : 1 ≤ rm.frames) (hlo : 21 ≤ rm.locals) (hcs : cells ≤ rm.cells ∧ slots ≤ rm.slots) (d : decode cc pc = .ok (.invokestatic index, 3)) (k : ja_W C cells slots lay mem n (pc + 3) ls (.int (ja_I (if a < b then b else a)) :: st)) : ja_W C cells slots lay mem n pc ls (.int (ja_I b) :: .int (ja_I a) :: st) := by
  obtain ⟨p, l, e, R, s, m, args, below, meth, c, D, cA, B, nL, Q⟩ := C
  obtain ⟨hnl, hrm, hx, hb, hml, hown, hts, ⟨hK, hAO, hNw⟩, hlk, hB⟩ := F
  subst hnl; subst hrm
  intro H locs lsA hH hS hl
  refine va_mmax hx hb (by rw [hml]; exact hl.1.symm) hown (hts _ hw) (hts _ (by decide +kernel)) (hts _ (by decide +kernel)) (hts _ (by decide +kernel)) hfr (by omega) hcs.1 hcs.2 d ?_
  have h := k H locs lsA hH hS hl
  by_cases hc : a < b
  · rw [if_pos ((ja_lt ha hb1).mpr hc)]
    rw [if_pos hc] at h
    exact h
  · rw [if_neg (fun q => hc ((ja_lt ha hb1).mp q))]
    rw [if_neg hc] at h
    exact h
theorem r_mmin (F : ja_F C own cc nl rm) {a b : Int} {index : Nat} (ha : ja_in a) (hb1 : ja_in b) (hw : Cond.methodLink own index Lib.Math.min.name ∈ lw_tbg) (hst : (st.map fun v => v.category).sum ≤ 8) (hfr : 1 ≤ rm.frames) (hlo : 21 ≤ rm.locals) (hcs : cells ≤ rm.cells ∧ slots ≤ rm.slots) (d : decode cc pc = .ok (.invokestatic index, 3)) (k : ja_W C cells slots lay mem n (pc + 3) ls (.int (ja_I (if b < a then b else a)) :: st)) : ja_W C cells slots lay mem n pc ls (.int (ja_I b) :: .int (ja_I a) :: st) := by
  obtain ⟨p, l, e, R, s, m, args, below, meth, c, D, cA, B, nL, Q⟩ := C
  obtain ⟨hnl, hrm, hx, hb, hml, hown, hts, ⟨hK, hAO, hNw⟩, hlk, hB⟩ := F
  subst hnl; subst hrm
  intro H locs lsA hH hS hl
  refine va_mmin hx hb (by rw [hml]; exact hl.1.symm) hown (hts _ hw) (hts _ (by decide +kernel)) (hts _ (by decide +kernel)) (hts _ (by decide +kernel)) hfr (by omega) hcs.1 hcs.2 d ?_
  have h := k H locs lsA hH hS hl
  by_cases hc : b < a
  · rw [if_pos ((ja_lt hb1 ha).mpr hc)]
    rw [if_pos hc] at h
    exact h
  · rw [if_neg (fun q => hc ((ja_lt hb1 ha).mp q))]
    rw [if_neg hc] at h
    exact h
theorem r_mabs (F : ja_F C own cc nl rm) {a : Int} {index : Nat} (ha : ja_in a) (hw : Cond.methodLink own index Lib.Math.abs.name ∈ lw_tbg) (hst : (st.map fun v => v.category).sum ≤ 8) (hfr : 1 ≤ rm.frames) (hlo : 21 ≤ rm.locals) (hcs : cells ≤ rm.cells ∧ slots ≤ rm.slots) (d : decode cc pc = .ok (.invokestatic index, 3)) (k : ja_W C cells slots lay mem n (pc + 3) ls (.int (ja_I (if 0 ≤ a then a else 0 - a)) :: st)) : ja_W C cells slots lay mem n pc ls (.int (ja_I a) :: st) := by
  obtain ⟨p, l, e, R, s, m, args, below, meth, c, D, cA, B, nL, Q⟩ := C
  obtain ⟨hnl, hrm, hx, hb, hml, hown, hts, ⟨hK, hAO, hNw⟩, hlk, hB⟩ := F
  subst hnl; subst hrm
  intro H locs lsA hH hS hl
  refine va_mabs hx hb (by rw [hml]; exact hl.1.symm) hown (hts _ hw) (hts _ (by decide +kernel)) (hts _ (by decide +kernel)) (hts _ (by decide +kernel)) hfr (by omega) hcs.1 hcs.2 d ?_
  have h := k H locs lsA hH hS hl
  by_cases hc : 0 ≤ a
  · rw [if_pos (show (0 : Int32) ≤ ja_I a from (ja_le ja_in0 ha).mpr hc)]
    rw [if_pos hc] at h
    exact h
  · rw [if_neg (show ¬ (0 : Int32) ≤ ja_I a from fun q => hc ((ja_le ja_in0 ha).mp q)), ja_zero, ja_sub]
    rw [if_neg hc] at h
    exact h
-- ends
theorem r_vret (F : ja_F C own cc nl rm) {post : ja_P} (Rt : ja_R C none rm post) (d : decode cc pc = .ok (.return_, 1)) (hcs : cells ≤ rm.cells ∧ slots ≤ rm.slots) (hp : post none lay mem n) : ja_W C cells slots lay mem n pc ls [] := by
  obtain ⟨p, l, e, R, s, m, args, below, meth, c, D, cA, B, nL, Q⟩ := C
  obtain ⟨hnl, hrm, hx, hb, hml, hown, hts, ⟨hK, hAO, hNw⟩, hlk, hB⟩ := F
  obtain ⟨hr, hQ⟩ := Rt
  subst hnl; subst hrm; subst hQ
  intro H locs lsA hH hS hl
  refine W.widen hcs.1 hcs.2 ?_
  exact W.vret hx hb hr (fun t ht hW => ⟨⟨none, lay, mem, n, rfl, hp, by rw [ht]; exact hH⟩, hS.F ht⟩) hS.2.2 d hlk
theorem r_iret (F : ja_F C own cc nl rm) {post : ja_P} (Rt : ja_R C (some .int) rm post) {z : Int} (d : decode cc pc = .ok (.ireturn, 1)) (hcs : cells ≤ rm.cells ∧ slots ≤ rm.slots) (hp : post (some (.int (ja_I z))) lay mem n) : ja_W C cells slots lay mem n pc ls [.int (ja_I z)] := by
  obtain ⟨p, l, e, R, s, m, args, below, meth, c, D, cA, B, nL, Q⟩ := C
  obtain ⟨hnl, hrm, hx, hb, hml, hown, hts, ⟨hK, hAO, hNw⟩, hlk, hB⟩ := F
  obtain ⟨hr, hQ⟩ := Rt
  subst hnl; subst hrm; subst hQ
  intro H locs lsA hH hS hl
  refine W.widen hcs.1 hcs.2 ?_
  exact W.iret hx hb hr (fun t ht hW => ⟨⟨_, lay, mem, n, rfl, hp, by rw [ht]; exact hH⟩, hS.F ht⟩) hS.2.2 d hlk
theorem r_zret (F : ja_F C own cc nl rm) {post : ja_P} (Rt : ja_R C (some .boolean) rm post) {z : Int} (hz : z = 0 ∨ z = 1) (d : decode cc pc = .ok (.ireturn, 1)) (hcs : cells ≤ rm.cells ∧ slots ≤ rm.slots) (hp : post (some (.int (ja_I z))) lay mem n) : ja_W C cells slots lay mem n pc ls [.int (ja_I z)] := by
  obtain ⟨p, l, e, R, s, m, args, below, meth, c, D, cA, B, nL, Q⟩ := C
  obtain ⟨hnl, hrm, hx, hb, hml, hown, hts, ⟨hK, hAO, hNw⟩, hlk, hB⟩ := F
  obtain ⟨hr, hQ⟩ := Rt
  subst hnl; subst hrm; subst hQ
  intro H locs lsA hH hS hl
  refine W.widen hcs.1 hcs.2 ?_
  exact W.zret hx hb hr (by rcases hz with rfl | rfl <;> decide) (fun t ht hW => ⟨⟨_, lay, mem, n, rfl, hp, by rw [ht]; exact hH⟩, hS.F ht⟩) hS.2.2 d hlk
theorem r_lret (F : ja_F C own cc nl rm) {post : ja_P} (Rt : ja_R C (some .long) rm post) {z : Int64} (d : decode cc pc = .ok (.lreturn, 1)) (hcs : cells ≤ rm.cells ∧ slots ≤ rm.slots) (hp : post (some (.long z)) lay mem n) : ja_W C cells slots lay mem n pc ls [.long z] := by
  obtain ⟨p, l, e, R, s, m, args, below, meth, c, D, cA, B, nL, Q⟩ := C
  obtain ⟨hnl, hrm, hx, hb, hml, hown, hts, ⟨hK, hAO, hNw⟩, hlk, hB⟩ := F
  obtain ⟨hr, hQ⟩ := Rt
  subst hnl; subst hrm; subst hQ
  intro H locs lsA hH hS hl
  refine W.widen hcs.1 hcs.2 ?_
  exact W.lret hx hb hr (fun t ht hW => ⟨⟨_, lay, mem, n, rfl, hp, by rw [ht]; exact hH⟩, hS.F ht⟩) hS.2.2 d hlk
end
end
section
theorem tm_1 {w : Cond} (i : Nat) (h : tables_1_1[i]? = some w) (g : goodWord w = true) : w ∈ lw_tbg := List.mem_filter.mpr ⟨List.mem_append_right _ (List.mem_append_left _ (List.mem_of_getElem? h)), g⟩
theorem tm_2 {w : Cond} (i : Nat) (h : tables_1_2[i]? = some w) (g : goodWord w = true) : w ∈ lw_tbg := List.mem_filter.mpr ⟨List.mem_append_right _ (List.mem_append_right _ (List.mem_append_left _ (List.mem_of_getElem? h))), g⟩
theorem tm_3 {w : Cond} (i : Nat) (h : tables_1_3[i]? = some w) (g : goodWord w = true) : w ∈ lw_tbg := List.mem_filter.mpr ⟨List.mem_append_right _ (List.mem_append_right _ (List.mem_append_right _ (List.mem_append_left _ (List.mem_of_getElem? h)))), g⟩
theorem tm_4 {w : Cond} (i : Nat) (h : tables_1_4[i]? = some w) (g : goodWord w = true) : w ∈ lw_tbg := List.mem_filter.mpr ⟨List.mem_append_right _ (List.mem_append_right _ (List.mem_append_right _ (List.mem_append_right _ (List.mem_append_left _ (List.mem_of_getElem? h))))), g⟩
theorem tm_5 {w : Cond} (i : Nat) (h : tables_1_5[i]? = some w) (g : goodWord w = true) : w ∈ lw_tbg := List.mem_filter.mpr ⟨List.mem_append_right _ (List.mem_append_right _ (List.mem_append_right _ (List.mem_append_right _ (List.mem_append_right _ (List.mem_append_left _ (List.mem_of_getElem? h)))))), g⟩
theorem tm_6 {w : Cond} (i : Nat) (h : tables_1_6[i]? = some w) (g : goodWord w = true) : w ∈ lw_tbg := List.mem_filter.mpr ⟨List.mem_append_right _ (List.mem_append_right _ (List.mem_append_right _ (List.mem_append_right _ (List.mem_append_right _ (List.mem_append_right _ (List.mem_of_getElem? h)))))), g⟩
theorem tn_0 : True := trivial
theorem tn_1 {w : Cond} (i : Nat) (h : tables_1_1[i]? = some w) : w ∈ lw_tbl := List.mem_append_right _ (List.mem_append_left _ (List.mem_of_getElem? h))
theorem tn_2 {w : Cond} (i : Nat) (h : tables_1_2[i]? = some w) : w ∈ lw_tbl := List.mem_append_right _ (List.mem_append_right _ (List.mem_append_left _ (List.mem_of_getElem? h)))
theorem tn_3 {w : Cond} (i : Nat) (h : tables_1_3[i]? = some w) : w ∈ lw_tbl := List.mem_append_right _ (List.mem_append_right _ (List.mem_append_right _ (List.mem_append_left _ (List.mem_of_getElem? h))))
theorem tn_4 {w : Cond} (i : Nat) (h : tables_1_4[i]? = some w) : w ∈ lw_tbl := List.mem_append_right _ (List.mem_append_right _ (List.mem_append_right _ (List.mem_append_right _ (List.mem_append_left _ (List.mem_of_getElem? h)))))
theorem tn_5 {w : Cond} (i : Nat) (h : tables_1_5[i]? = some w) : w ∈ lw_tbl := List.mem_append_right _ (List.mem_append_right _ (List.mem_append_right _ (List.mem_append_right _ (List.mem_append_right _ (List.mem_append_left _ (List.mem_of_getElem? h))))))
theorem tn_6 {w : Cond} (i : Nat) (h : tables_1_6[i]? = some w) : w ∈ lw_tbl := List.mem_append_right _ (List.mem_append_right _ (List.mem_append_right _ (List.mem_append_right _ (List.mem_append_right _ (List.mem_append_right _ (List.mem_of_getElem? h))))))
theorem tm_0 {w : Cond} (i : Nat) (h : (k2_sels lw_privs)[i]? = some w) (g : goodWord w = true) : w ∈ lw_tbg := List.mem_filter.mpr ⟨List.mem_append_left _ (List.mem_of_getElem? h), g⟩
theorem u_X0 : ∀ w ∈ u_ws RX0 TX0 8, w ∈ lw_tbg := List.forall_mem_cons.mpr ⟨tm_2 42 rfl rfl, List.forall_mem_cons.mpr ⟨tm_2 44 rfl rfl, List.forall_mem_cons.mpr ⟨tm_2 46 rfl rfl, List.forall_mem_cons.mpr ⟨tm_2 48 rfl rfl, List.forall_mem_cons.mpr ⟨tm_2 50 rfl rfl, List.forall_mem_cons.mpr ⟨tm_2 52 rfl rfl, List.forall_mem_cons.mpr ⟨tm_2 54 rfl rfl, List.forall_mem_cons.mpr ⟨tm_2 56 rfl rfl, fun _ h => absurd h List.not_mem_nil⟩⟩⟩⟩⟩⟩⟩⟩
theorem u_X1 : ∀ w ∈ u_ws RX1 TX1 5, w ∈ lw_tbg := List.forall_mem_cons.mpr ⟨tm_1 218 rfl rfl, List.forall_mem_cons.mpr ⟨tm_1 220 rfl rfl, List.forall_mem_cons.mpr ⟨tm_1 222 rfl rfl, List.forall_mem_cons.mpr ⟨tm_1 224 rfl rfl, List.forall_mem_cons.mpr ⟨tm_1 226 rfl rfl, fun _ h => absurd h List.not_mem_nil⟩⟩⟩⟩⟩
theorem u_X2 : ∀ w ∈ u_ws RX2 TX2 9, w ∈ lw_tbg := List.forall_mem_cons.mpr ⟨tm_1 177 rfl rfl, List.forall_mem_cons.mpr ⟨tm_1 179 rfl rfl, List.forall_mem_cons.mpr ⟨tm_1 181 rfl rfl, List.forall_mem_cons.mpr ⟨tm_1 183 rfl rfl, List.forall_mem_cons.mpr ⟨tm_1 185 rfl rfl, List.forall_mem_cons.mpr ⟨tm_1 187 rfl rfl, List.forall_mem_cons.mpr ⟨tm_1 189 rfl rfl, List.forall_mem_cons.mpr ⟨tm_1 191 rfl rfl, List.forall_mem_cons.mpr ⟨tm_1 193 rfl rfl, fun _ h => absurd h List.not_mem_nil⟩⟩⟩⟩⟩⟩⟩⟩⟩
theorem u_X3 : ∀ w ∈ u_ws RX3 TX3 3, w ∈ lw_tbg := List.forall_mem_cons.mpr ⟨tm_1 88 rfl rfl, List.forall_mem_cons.mpr ⟨tm_1 90 rfl rfl, List.forall_mem_cons.mpr ⟨tm_1 92 rfl rfl, fun _ h => absurd h List.not_mem_nil⟩⟩⟩
theorem u_X4 : ∀ w ∈ u_ws RX4 TX4 8, w ∈ lw_tbg := List.forall_mem_cons.mpr ⟨tm_1 134 rfl rfl, List.forall_mem_cons.mpr ⟨tm_1 136 rfl rfl, List.forall_mem_cons.mpr ⟨tm_1 138 rfl rfl, List.forall_mem_cons.mpr ⟨tm_1 140 rfl rfl, List.forall_mem_cons.mpr ⟨tm_1 142 rfl rfl, List.forall_mem_cons.mpr ⟨tm_1 144 rfl rfl, List.forall_mem_cons.mpr ⟨tm_1 146 rfl rfl, List.forall_mem_cons.mpr ⟨tm_1 148 rfl rfl, fun _ h => absurd h List.not_mem_nil⟩⟩⟩⟩⟩⟩⟩⟩
theorem u_X5 : ∀ w ∈ u_ws RX5 TX5 9, w ∈ lw_tbg := List.forall_mem_cons.mpr ⟨tm_2 7 rfl rfl, List.forall_mem_cons.mpr ⟨tm_2 9 rfl rfl, List.forall_mem_cons.mpr ⟨tm_2 11 rfl rfl, List.forall_mem_cons.mpr ⟨tm_2 13 rfl rfl, List.forall_mem_cons.mpr ⟨tm_2 15 rfl rfl, List.forall_mem_cons.mpr ⟨tm_2 17 rfl rfl, List.forall_mem_cons.mpr ⟨tm_2 19 rfl rfl, List.forall_mem_cons.mpr ⟨tm_2 21 rfl rfl, List.forall_mem_cons.mpr ⟨tm_2 23 rfl rfl, fun _ h => absurd h List.not_mem_nil⟩⟩⟩⟩⟩⟩⟩⟩⟩
theorem u_X6 : ∀ w ∈ u_ws RX6 TX6 9, w ∈ lw_tbg := List.forall_mem_cons.mpr ⟨tm_1 60 rfl rfl, List.forall_mem_cons.mpr ⟨tm_1 62 rfl rfl, List.forall_mem_cons.mpr ⟨tm_1 64 rfl rfl, List.forall_mem_cons.mpr ⟨tm_1 66 rfl rfl, List.forall_mem_cons.mpr ⟨tm_1 68 rfl rfl, List.forall_mem_cons.mpr ⟨tm_1 70 rfl rfl, List.forall_mem_cons.mpr ⟨tm_1 72 rfl rfl, List.forall_mem_cons.mpr ⟨tm_1 74 rfl rfl, List.forall_mem_cons.mpr ⟨tm_1 76 rfl rfl, fun _ h => absurd h List.not_mem_nil⟩⟩⟩⟩⟩⟩⟩⟩⟩
theorem u_X7 : ∀ w ∈ u_ws RX7 TX7 4, w ∈ lw_tbg := List.forall_mem_cons.mpr ⟨tm_1 108 rfl rfl, List.forall_mem_cons.mpr ⟨tm_1 110 rfl rfl, List.forall_mem_cons.mpr ⟨tm_1 112 rfl rfl, List.forall_mem_cons.mpr ⟨tm_1 114 rfl rfl, fun _ h => absurd h List.not_mem_nil⟩⟩⟩⟩
theorem u_X8 : ∀ w ∈ u_ws RX8 TX8 5, w ∈ lw_tbg := List.forall_mem_cons.mpr ⟨tm_2 66 rfl rfl, List.forall_mem_cons.mpr ⟨tm_2 68 rfl rfl, List.forall_mem_cons.mpr ⟨tm_2 70 rfl rfl, List.forall_mem_cons.mpr ⟨tm_2 72 rfl rfl, List.forall_mem_cons.mpr ⟨tm_2 74 rfl rfl, fun _ h => absurd h List.not_mem_nil⟩⟩⟩⟩⟩
theorem u_X9 : ∀ w ∈ u_ws RX9 TX9 11, w ∈ lw_tbg := List.forall_mem_cons.mpr ⟨tm_4 120 rfl rfl, List.forall_mem_cons.mpr ⟨tm_4 122 rfl rfl, List.forall_mem_cons.mpr ⟨tm_4 124 rfl rfl, List.forall_mem_cons.mpr ⟨tm_4 126 rfl rfl, List.forall_mem_cons.mpr ⟨tm_4 128 rfl rfl, List.forall_mem_cons.mpr ⟨tm_4 130 rfl rfl, List.forall_mem_cons.mpr ⟨tm_4 132 rfl rfl, List.forall_mem_cons.mpr ⟨tm_4 134 rfl rfl, List.forall_mem_cons.mpr ⟨tm_4 136 rfl rfl, List.forall_mem_cons.mpr ⟨tm_4 138 rfl rfl, List.forall_mem_cons.mpr ⟨tm_4 140 rfl rfl, fun _ h => absurd h List.not_mem_nil⟩⟩⟩⟩⟩⟩⟩⟩⟩⟩⟩
theorem a_int : Cond.arrayClass .int ∈ lw_tbg := tm_1 96 rfl rfl
theorem a_long : Cond.arrayClass .long ∈ lw_tbg := tm_1 95 rfl rfl
theorem a_boolean : Cond.arrayClass .boolean ∈ lw_tbg := tm_4 143 rfl rfl
theorem l_J13_314 : Cond.constantLong RJ13 314 (6148914691236517205) ∈ lw_tbg := tm_2 172 rfl rfl
theorem l_J13_316 : Cond.constantLong RJ13 316 (3689348814741910323) ∈ lw_tbg := tm_2 173 rfl rfl
theorem l_J13_318 : Cond.constantLong RJ13 318 (1085102592571150095) ∈ lw_tbg := tm_2 174 rfl rfl
theorem n_L_7 : ja_New RL 7 8 5 [some .null, some .null, some .null, some .null, some .null] := ⟨RX8, TX8, tyX8, rfl, u_X8, tyX8_ok, tm_1 14 rfl rfl, tm_1 15 rfl rfl, tm_1 1 rfl rfl, fun j hj => by
  match j, hj with
  | 0, _ => rfl
  | 1, _ => rfl
  | 2, _ => rfl
  | 3, _ => rfl
  | 4, _ => rfl⟩
theorem i_L_9 : ja_Ci RL 9 yX8_init cX8_init 1 0 := ⟨tm_1 16 rfl rfl, tm_1 17 rfl rfl, tm_1 1 rfl rfl, tm_1 18 rfl rfl, by decide +kernel, by decide +kernel, by decide +kernel, by decide +kernel⟩
theorem n_L_10 : ja_New RL 10 9 11 [some .null, some .null, some .null, some .null, some .null, none, some .null, some .null, some .null, none, none] := ⟨RX9, TX9, tyX9, rfl, u_X9, tyX9_ok, tm_4 103 rfl rfl, tm_4 104 rfl rfl, tm_1 10 rfl rfl, fun j hj => by
  match j, hj with
  | 0, _ => rfl
  | 1, _ => rfl
  | 2, _ => rfl
  | 3, _ => rfl
  | 4, _ => rfl
  | 5, _ => rfl
  | 6, _ => rfl
  | 7, _ => rfl
  | 8, _ => rfl
  | 9, _ => rfl
  | 10, _ => rfl⟩
theorem i_L_12 : ja_Ci RL 12 yX9_init cX9_init 1 0 := ⟨tm_4 105 rfl rfl, tm_4 106 rfl rfl, tm_1 10 rfl rfl, tm_4 107 rfl rfl, by decide +kernel, by decide +kernel, by decide +kernel, by decide +kernel⟩
theorem v_L_13 : ja_Cv RL 13 yX8_setFrame cX8_setFrame 3 (some .int) 1 := ⟨tm_2 77 rfl rfl, tm_2 78 rfl rfl, tm_2 79 rfl rfl, tm_1 1 rfl rfl, tm_2 80 rfl rfl, by decide +kernel, by decide +kernel, by decide +kernel⟩
theorem v_L_17 : ja_Cv RL 17 yX9_setFrame cX9_setFrame 2 (some .int) 1 := ⟨tm_4 144 rfl rfl, tm_4 145 rfl rfl, tm_4 146 rfl rfl, tm_1 10 rfl rfl, tm_4 147 rfl rfl, by decide +kernel, by decide +kernel, by decide +kernel⟩
theorem v_L_18 : ja_Cv RL 18 yX8_setWave cX8_setWave 4 (some .int) 2 := ⟨tm_2 85 rfl rfl, tm_2 86 rfl rfl, tm_2 87 rfl rfl, tm_1 1 rfl rfl, tm_2 88 rfl rfl, by decide +kernel, by decide +kernel, by decide +kernel⟩
theorem v_L_22 : ja_Cv RL 22 yX9_setWave cX9_setWave 4 (some .int) 2 := ⟨tm_4 159 rfl rfl, tm_4 160 rfl rfl, tm_4 161 rfl rfl, tm_1 10 rfl rfl, tm_4 162 rfl rfl, by decide +kernel, by decide +kernel, by decide +kernel⟩
theorem v_L_23 : ja_Cv RL 23 yX8_setBlock cX8_setBlock 4 (some .int) 2 := ⟨tm_2 89 rfl rfl, tm_2 90 rfl rfl, tm_2 91 rfl rfl, tm_1 1 rfl rfl, tm_2 92 rfl rfl, by decide +kernel, by decide +kernel, by decide +kernel⟩
theorem v_L_26 : ja_Cv RL 26 yX9_setBlock cX9_setBlock 4 (some .int) 2 := ⟨tm_4 163 rfl rfl, tm_4 164 rfl rfl, tm_4 165 rfl rfl, tm_1 10 rfl rfl, tm_4 166 rfl rfl, by decide +kernel, by decide +kernel, by decide +kernel⟩
theorem v_L_27 : ja_Cv RL 27 yX8_setInitialDelay cX8_setInitialDelay 3 (some .int) 1 := ⟨tm_2 93 rfl rfl, tm_2 94 rfl rfl, tm_2 95 rfl rfl, tm_1 1 rfl rfl, tm_2 96 rfl rfl, by decide +kernel, by decide +kernel, by decide +kernel⟩
theorem v_L_30 : ja_Cv RL 30 yX9_setInitialDelay cX9_setInitialDelay 2 (some .int) 1 := ⟨tm_4 167 rfl rfl, tm_4 168 rfl rfl, tm_4 169 rfl rfl, tm_1 10 rfl rfl, tm_4 170 rfl rfl, by decide +kernel, by decide +kernel, by decide +kernel⟩
theorem v_L_31 : ja_Cv RL 31 yX8_setQuantile cX8_setQuantile 3 (some .int) 1 := ⟨tm_2 97 rfl rfl, tm_2 98 rfl rfl, tm_2 99 rfl rfl, tm_1 1 rfl rfl, tm_2 100 rfl rfl, by decide +kernel, by decide +kernel, by decide +kernel⟩
theorem v_L_34 : ja_Cv RL 34 yX9_setQuantile cX9_setQuantile 2 (some .int) 1 := ⟨tm_4 171 rfl rfl, tm_4 172 rfl rfl, tm_4 173 rfl rfl, tm_1 10 rfl rfl, tm_4 174 rfl rfl, by decide +kernel, by decide +kernel, by decide +kernel⟩
theorem v_L_35 : ja_Cv RL 35 yX8_setMargin cX8_setMargin 3 (some .int) 1 := ⟨tm_2 101 rfl rfl, tm_2 102 rfl rfl, tm_2 103 rfl rfl, tm_1 1 rfl rfl, tm_2 104 rfl rfl, by decide +kernel, by decide +kernel, by decide +kernel⟩
theorem v_L_38 : ja_Cv RL 38 yX9_setMargin cX9_setMargin 2 (some .int) 1 := ⟨tm_4 175 rfl rfl, tm_4 176 rfl rfl, tm_4 177 rfl rfl, tm_1 10 rfl rfl, tm_4 178 rfl rfl, by decide +kernel, by decide +kernel, by decide +kernel⟩
theorem v_L_39 : ja_Cv RL 39 yX8_setAdapting cX8_setAdapting 3 (some .int) 1 := ⟨tm_2 105 rfl rfl, tm_2 106 rfl rfl, tm_2 107 rfl rfl, tm_1 1 rfl rfl, tm_2 108 rfl rfl, by decide +kernel, by decide +kernel, by decide +kernel⟩
theorem v_L_43 : ja_Cv RL 43 yX9_setAdapting cX9_setAdapting 2 (some .int) 1 := ⟨tm_4 179 rfl rfl, tm_4 180 rfl rfl, tm_4 181 rfl rfl, tm_1 10 rfl rfl, tm_4 182 rfl rfl, by decide +kernel, by decide +kernel, by decide +kernel⟩
theorem v_L_44 : ja_Cv RL 44 yX8_arrive cX8_arrive 2 (some .int) 1 := ⟨tm_2 109 rfl rfl, tm_2 110 rfl rfl, tm_2 111 rfl rfl, tm_1 1 rfl rfl, tm_2 112 rfl rfl, by decide +kernel, by decide +kernel, by decide +kernel⟩
theorem v_L_47 : ja_Cv RL 47 yX9_arrive cX9_arrive 2 (some .int) 1 := ⟨tm_4 183 rfl rfl, tm_4 184 rfl rfl, tm_4 185 rfl rfl, tm_1 10 rfl rfl, tm_4 186 rfl rfl, by decide +kernel, by decide +kernel, by decide +kernel⟩
theorem v_L_48 : ja_Cv RL 48 yX8_arriveParity cX8_arriveParity 4 (some .int) 3 := ⟨tm_2 175 rfl rfl, tm_2 176 rfl rfl, tm_2 177 rfl rfl, tm_1 1 rfl rfl, tm_2 178 rfl rfl, by decide +kernel, by decide +kernel, by decide +kernel⟩
theorem v_L_52 : ja_Cv RL 52 yX9_arriveParity cX9_arriveParity 4 (some .int) 3 := ⟨tm_4 234 rfl rfl, tm_4 235 rfl rfl, tm_4 236 rfl rfl, tm_1 10 rfl rfl, tm_4 237 rfl rfl, by decide +kernel, by decide +kernel, by decide +kernel⟩
theorem v_L_53 : ja_Cv RL 53 yX8_advance cX8_advance 4 (some .int) 1 := ⟨tm_2 200 rfl rfl, tm_2 201 rfl rfl, tm_2 202 rfl rfl, tm_1 1 rfl rfl, tm_2 203 rfl rfl, by decide +kernel, by decide +kernel, by decide +kernel⟩
theorem v_L_56 : ja_Cv RL 56 yX9_advance cX9_advance 4 (some .int) 1 := ⟨tm_5 6 rfl rfl, tm_5 7 rfl rfl, tm_5 8 rfl rfl, tm_1 10 rfl rfl, tm_5 9 rfl rfl, by decide +kernel, by decide +kernel, by decide +kernel⟩
theorem v_L_57 : ja_Cv RL 57 yX8_time cX8_time 1 (some .int) 0 := ⟨tm_3 81 rfl rfl, tm_3 82 rfl rfl, tm_3 83 rfl rfl, tm_1 1 rfl rfl, tm_3 84 rfl rfl, by decide +kernel, by decide +kernel, by decide +kernel⟩
theorem v_L_61 : ja_Cv RL 61 yX9_time cX9_time 1 (some .int) 0 := ⟨tm_5 68 rfl rfl, tm_5 69 rfl rfl, tm_5 70 rfl rfl, tm_1 10 rfl rfl, tm_5 71 rfl rfl, by decide +kernel, by decide +kernel, by decide +kernel⟩
theorem v_L_62 : ja_Cv RL 62 yX8_start cX8_start 1 (some .int) 0 := ⟨tm_3 85 rfl rfl, tm_3 86 rfl rfl, tm_3 87 rfl rfl, tm_1 1 rfl rfl, tm_3 88 rfl rfl, by decide +kernel, by decide +kernel, by decide +kernel⟩
theorem v_L_65 : ja_Cv RL 65 yX9_start cX9_start 1 (some .int) 0 := ⟨tm_5 72 rfl rfl, tm_5 73 rfl rfl, tm_5 74 rfl rfl, tm_1 10 rfl rfl, tm_5 75 rfl rfl, by decide +kernel, by decide +kernel, by decide +kernel⟩
theorem v_L_66 : ja_Cv RL 66 yX8_output cX8_output 2 (some .int) 1 := ⟨tm_3 89 rfl rfl, tm_3 90 rfl rfl, tm_3 91 rfl rfl, tm_1 1 rfl rfl, tm_3 92 rfl rfl, by decide +kernel, by decide +kernel, by decide +kernel⟩
theorem v_L_69 : ja_Cv RL 69 yX9_output cX9_output 2 (some .int) 1 := ⟨tm_5 76 rfl rfl, tm_5 77 rfl rfl, tm_5 78 rfl rfl, tm_1 10 rfl rfl, tm_5 79 rfl rfl, by decide +kernel, by decide +kernel, by decide +kernel⟩
end
