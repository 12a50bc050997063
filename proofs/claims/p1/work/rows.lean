section
-- ===== PART A: goes FIRST, ahead of the names: the tables' words, and 'selects' of the private methods out of them =====
def lw_okq (q : MethodName × Nat) : Prop := (q.1.cls ≠ "java/lang/invoke/MethodHandle" ∧ q.1.cls ≠ "java/lang/invoke/VarHandle") ∧ Cond.instantiable q.1.cls q.2 ∈ tables_1 ∧ Cond.privateMethod q.1 ∈ tables_1 ∧ Cond.instanceMethod q.1 ∈ tables_1
theorem lw_p0 : lw_okq (⟨"PlayoutBuffer$Receiver", "startOnce", "()V"⟩, 9) := ⟨⟨by decide +kernel, by decide +kernel⟩, List.mem_of_getElem? (i := 23) (by decide +kernel), List.mem_of_getElem? (i := 369) (by decide +kernel), List.mem_of_getElem? (i := 370) (by decide +kernel)⟩
theorem lw_p1 : lw_okq (⟨"PlayoutBuffer$Transits", "insert", "(II)V"⟩, 4) := ⟨⟨by decide +kernel, by decide +kernel⟩, List.mem_of_getElem? (i := 98) (by decide +kernel), List.mem_of_getElem? (i := 380) (by decide +kernel), List.mem_of_getElem? (i := 381) (by decide +kernel)⟩
theorem lw_p2 : lw_okq (⟨"PlayoutBuffer$Frames", "knownIn", "(LPlayoutBuffer$Settings;I)J"⟩, 3) := ⟨⟨by decide +kernel, by decide +kernel⟩, List.mem_of_getElem? (i := 80) (by decide +kernel), List.mem_of_getElem? (i := 393) (by decide +kernel), List.mem_of_getElem? (i := 394) (by decide +kernel)⟩
theorem lw_p3 : lw_okq (⟨"PlayoutBuffer$Receiver", "acceptDue", "()V"⟩, 9) := ⟨⟨by decide +kernel, by decide +kernel⟩, List.mem_of_getElem? (i := 23) (by decide +kernel), List.mem_of_getElem? (i := 449) (by decide +kernel), List.mem_of_getElem? (i := 450) (by decide +kernel)⟩
theorem lw_p4 : lw_okq (⟨"PlayoutBuffer$Receiver", "takeFrame", "(I)V"⟩, 9) := ⟨⟨by decide +kernel, by decide +kernel⟩, List.mem_of_getElem? (i := 23) (by decide +kernel), List.mem_of_getElem? (i := 467) (by decide +kernel), List.mem_of_getElem? (i := 468) (by decide +kernel)⟩
theorem lw_p5 : lw_okq (⟨"PlayoutBuffer$Player", "bestLag", "(IZ)I"⟩, 8) := ⟨⟨by decide +kernel, by decide +kernel⟩, List.mem_of_getElem? (i := 118) (by decide +kernel), List.mem_of_getElem? (i := 491) (by decide +kernel), List.mem_of_getElem? (i := 492) (by decide +kernel)⟩
theorem lw_p6 : lw_okq (⟨"PlayoutBuffer$Player", "differences", "(I)I"⟩, 8) := ⟨⟨by decide +kernel, by decide +kernel⟩, List.mem_of_getElem? (i := 118) (by decide +kernel), List.mem_of_getElem? (i := 495) (by decide +kernel), List.mem_of_getElem? (i := 496) (by decide +kernel)⟩
theorem lw_p7 : lw_okq (⟨"PlayoutBuffer$Player", "put", "(I)V"⟩, 8) := ⟨⟨by decide +kernel, by decide +kernel⟩, List.mem_of_getElem? (i := 118) (by decide +kernel), List.mem_of_getElem? (i := 505) (by decide +kernel), List.mem_of_getElem? (i := 506) (by decide +kernel)⟩
theorem lw_p8 : lw_okq (⟨"PlayoutBuffer$Receiver", "putKnown", "(I)V"⟩, 9) := ⟨⟨by decide +kernel, by decide +kernel⟩, List.mem_of_getElem? (i := 23) (by decide +kernel), List.mem_of_getElem? (i := 513) (by decide +kernel), List.mem_of_getElem? (i := 514) (by decide +kernel)⟩
theorem lw_p9 : lw_okq (⟨"PlayoutBuffer$Player", "putSource", "(II)V"⟩, 8) := ⟨⟨by decide +kernel, by decide +kernel⟩, List.mem_of_getElem? (i := 118) (by decide +kernel), List.mem_of_getElem? (i := 546) (by decide +kernel), List.mem_of_getElem? (i := 547) (by decide +kernel)⟩
theorem lw_p10 : lw_okq (⟨"PlayoutBuffer$ArrivalText", "follows", "(ILPlayoutBuffer$Arrivals;)Z"⟩, 8) := ⟨⟨by decide +kernel, by decide +kernel⟩, List.mem_of_getElem? (i := 268) (by decide +kernel), List.mem_of_getElem? (i := 758) (by decide +kernel), List.mem_of_getElem? (i := 759) (by decide +kernel)⟩
theorem lw_p11 : lw_okq (⟨"PlayoutBuffer$ArrivalText", "beginsEntry", "(I)Z"⟩, 8) := ⟨⟨by decide +kernel, by decide +kernel⟩, List.mem_of_getElem? (i := 268) (by decide +kernel), List.mem_of_getElem? (i := 762) (by decide +kernel), List.mem_of_getElem? (i := 763) (by decide +kernel)⟩
theorem lw_p12 : lw_okq (⟨"PlayoutBuffer$ArrivalText", "expect", "(I)V"⟩, 8) := ⟨⟨by decide +kernel, by decide +kernel⟩, List.mem_of_getElem? (i := 268) (by decide +kernel), List.mem_of_getElem? (i := 766) (by decide +kernel), List.mem_of_getElem? (i := 767) (by decide +kernel)⟩
theorem lw_p13 : lw_okq (⟨"PlayoutBuffer$ArrivalText", "endOfNumber", "()I"⟩, 8) := ⟨⟨by decide +kernel, by decide +kernel⟩, List.mem_of_getElem? (i := 268) (by decide +kernel), List.mem_of_getElem? (i := 770) (by decide +kernel), List.mem_of_getElem? (i := 771) (by decide +kernel)⟩
theorem lw_p14 : lw_okq (⟨"PlayoutBuffer$ArrivalText", "endNumber", "(LPlayoutBuffer$Arrivals;)V"⟩, 8) := ⟨⟨by decide +kernel, by decide +kernel⟩, List.mem_of_getElem? (i := 268) (by decide +kernel), List.mem_of_getElem? (i := 774) (by decide +kernel), List.mem_of_getElem? (i := 775) (by decide +kernel)⟩
theorem lw_p15 : lw_okq (⟨"PlayoutBuffer", "canArrive", "(I)Z"⟩, 5) := ⟨⟨by decide +kernel, by decide +kernel⟩, List.mem_of_getElem? (i := 15) (by decide +kernel), List.mem_of_getElem? (i := 783) (by decide +kernel), List.mem_of_getElem? (i := 784) (by decide +kernel)⟩
def lw_privs_1 : List (MethodName × Nat) := [(⟨"PlayoutBuffer$Receiver", "startOnce", "()V"⟩, 9), (⟨"PlayoutBuffer$Transits", "insert", "(II)V"⟩, 4), (⟨"PlayoutBuffer$Frames", "knownIn", "(LPlayoutBuffer$Settings;I)J"⟩, 3), (⟨"PlayoutBuffer$Receiver", "acceptDue", "()V"⟩, 9), (⟨"PlayoutBuffer$Receiver", "takeFrame", "(I)V"⟩, 9), (⟨"PlayoutBuffer$Player", "bestLag", "(IZ)I"⟩, 8), (⟨"PlayoutBuffer$Player", "differences", "(I)I"⟩, 8), (⟨"PlayoutBuffer$Player", "put", "(I)V"⟩, 8), (⟨"PlayoutBuffer$Receiver", "putKnown", "(I)V"⟩, 9), (⟨"PlayoutBuffer$Player", "putSource", "(II)V"⟩, 8), (⟨"PlayoutBuffer$ArrivalText", "follows", "(ILPlayoutBuffer$Arrivals;)Z"⟩, 8), (⟨"PlayoutBuffer$ArrivalText", "beginsEntry", "(I)Z"⟩, 8), (⟨"PlayoutBuffer$ArrivalText", "expect", "(I)V"⟩, 8), (⟨"PlayoutBuffer$ArrivalText", "endOfNumber", "()I"⟩, 8), (⟨"PlayoutBuffer$ArrivalText", "endNumber", "(LPlayoutBuffer$Arrivals;)V"⟩, 8), (⟨"PlayoutBuffer", "canArrive", "(I)Z"⟩, 5)]
theorem lw_r1 : ∀ q ∈ lw_privs_1, lw_okq q := List.forall_mem_cons.mpr ⟨lw_p0, List.forall_mem_cons.mpr ⟨lw_p1, List.forall_mem_cons.mpr ⟨lw_p2, List.forall_mem_cons.mpr ⟨lw_p3, List.forall_mem_cons.mpr ⟨lw_p4, List.forall_mem_cons.mpr ⟨lw_p5, List.forall_mem_cons.mpr ⟨lw_p6, List.forall_mem_cons.mpr ⟨lw_p7, List.forall_mem_cons.mpr ⟨lw_p8, List.forall_mem_cons.mpr ⟨lw_p9, List.forall_mem_cons.mpr ⟨lw_p10, List.forall_mem_cons.mpr ⟨lw_p11, List.forall_mem_cons.mpr ⟨lw_p12, List.forall_mem_cons.mpr ⟨lw_p13, List.forall_mem_cons.mpr ⟨lw_p14, List.forall_mem_cons.mpr ⟨lw_p15, fun _ h => absurd h List.not_mem_nil⟩⟩⟩⟩⟩⟩⟩⟩⟩⟩⟩⟩⟩⟩⟩⟩
theorem lw_p16 : lw_okq (⟨"PlayoutBufferModel", "isBegun", "()Z"⟩, 11) := ⟨⟨by decide +kernel, by decide +kernel⟩, List.mem_of_getElem? (i := 824) (by decide +kernel), List.mem_of_getElem? (i := 872) (by decide +kernel), List.mem_of_getElem? (i := 873) (by decide +kernel)⟩
theorem lw_p17 : lw_okq (⟨"PlayoutBufferModel", "put", "(II)I"⟩, 11) := ⟨⟨by decide +kernel, by decide +kernel⟩, List.mem_of_getElem? (i := 824) (by decide +kernel), List.mem_of_getElem? (i := 876) (by decide +kernel), List.mem_of_getElem? (i := 877) (by decide +kernel)⟩
theorem lw_p18 : lw_okq (⟨"PlayoutBufferModel", "arrives", "(I)I"⟩, 11) := ⟨⟨by decide +kernel, by decide +kernel⟩, List.mem_of_getElem? (i := 824) (by decide +kernel), List.mem_of_getElem? (i := 911) (by decide +kernel), List.mem_of_getElem? (i := 912) (by decide +kernel)⟩
theorem lw_p19 : lw_okq (⟨"PlayoutBufferModel", "isKnown", "(I)Z"⟩, 11) := ⟨⟨by decide +kernel, by decide +kernel⟩, List.mem_of_getElem? (i := 824) (by decide +kernel), List.mem_of_getElem? (i := 915) (by decide +kernel), List.mem_of_getElem? (i := 916) (by decide +kernel)⟩
theorem lw_p20 : lw_okq (⟨"PlayoutBufferModel", "begins", "()V"⟩, 11) := ⟨⟨by decide +kernel, by decide +kernel⟩, List.mem_of_getElem? (i := 824) (by decide +kernel), List.mem_of_getElem? (i := 919) (by decide +kernel), List.mem_of_getElem? (i := 920) (by decide +kernel)⟩
theorem lw_p21 : lw_okq (⟨"PlayoutBufferModel", "sees", "(I)V"⟩, 11) := ⟨⟨by decide +kernel, by decide +kernel⟩, List.mem_of_getElem? (i := 824) (by decide +kernel), List.mem_of_getElem? (i := 923) (by decide +kernel), List.mem_of_getElem? (i := 924) (by decide +kernel)⟩
theorem lw_p22 : lw_okq (⟨"PlayoutBufferModel", "area", "()I"⟩, 11) := ⟨⟨by decide +kernel, by decide +kernel⟩, List.mem_of_getElem? (i := 824) (by decide +kernel), List.mem_of_getElem? (i := 927) (by decide +kernel), List.mem_of_getElem? (i := 928) (by decide +kernel)⟩
theorem lw_p23 : lw_okq (⟨"PlayoutBufferModel", "restores", "(IZ)I"⟩, 11) := ⟨⟨by decide +kernel, by decide +kernel⟩, List.mem_of_getElem? (i := 824) (by decide +kernel), List.mem_of_getElem? (i := 931) (by decide +kernel), List.mem_of_getElem? (i := 932) (by decide +kernel)⟩
theorem lw_p24 : lw_okq (⟨"PlayoutBufferModel", "packet", "(ZII)I"⟩, 11) := ⟨⟨by decide +kernel, by decide +kernel⟩, List.mem_of_getElem? (i := 824) (by decide +kernel), List.mem_of_getElem? (i := 935) (by decide +kernel), List.mem_of_getElem? (i := 936) (by decide +kernel)⟩
theorem lw_p25 : lw_okq (⟨"PlayoutBufferModel", "restoresBy", "(ZII)I"⟩, 11) := ⟨⟨by decide +kernel, by decide +kernel⟩, List.mem_of_getElem? (i := 824) (by decide +kernel), List.mem_of_getElem? (i := 939) (by decide +kernel), List.mem_of_getElem? (i := 940) (by decide +kernel)⟩
theorem lw_p26 : lw_okq (⟨"PlayoutBufferModel", "missingOf", "(ZII)I"⟩, 11) := ⟨⟨by decide +kernel, by decide +kernel⟩, List.mem_of_getElem? (i := 824) (by decide +kernel), List.mem_of_getElem? (i := 943) (by decide +kernel), List.mem_of_getElem? (i := 944) (by decide +kernel)⟩
theorem lw_p27 : lw_okq (⟨"PlayoutBufferModel", "covers", "(Z)I"⟩, 11) := ⟨⟨by decide +kernel, by decide +kernel⟩, List.mem_of_getElem? (i := 824) (by decide +kernel), List.mem_of_getElem? (i := 947) (by decide +kernel), List.mem_of_getElem? (i := 948) (by decide +kernel)⟩
theorem lw_p28 : lw_okq (⟨"PlayoutBufferModel", "covered", "(ZIII)I"⟩, 11) := ⟨⟨by decide +kernel, by decide +kernel⟩, List.mem_of_getElem? (i := 824) (by decide +kernel), List.mem_of_getElem? (i := 951) (by decide +kernel), List.mem_of_getElem? (i := 952) (by decide +kernel)⟩
theorem lw_p29 : lw_okq (⟨"PlayoutBufferModel", "isPacket", "(ZII)Z"⟩, 11) := ⟨⟨by decide +kernel, by decide +kernel⟩, List.mem_of_getElem? (i := 824) (by decide +kernel), List.mem_of_getElem? (i := 959) (by decide +kernel), List.mem_of_getElem? (i := 960) (by decide +kernel)⟩
theorem lw_p30 : lw_okq (⟨"PlayoutBufferModel", "arrivesParity", "(ZII)I"⟩, 11) := ⟨⟨by decide +kernel, by decide +kernel⟩, List.mem_of_getElem? (i := 824) (by decide +kernel), List.mem_of_getElem? (i := 963) (by decide +kernel), List.mem_of_getElem? (i := 964) (by decide +kernel)⟩
theorem lw_p31 : lw_okq (⟨"PlayoutBufferModel", "tick", "()I"⟩, 11) := ⟨⟨by decide +kernel, by decide +kernel⟩, List.mem_of_getElem? (i := 824) (by decide +kernel), List.mem_of_getElem? (i := 971) (by decide +kernel), List.mem_of_getElem? (i := 972) (by decide +kernel)⟩
def lw_privs_2 : List (MethodName × Nat) := [(⟨"PlayoutBufferModel", "isBegun", "()Z"⟩, 11), (⟨"PlayoutBufferModel", "put", "(II)I"⟩, 11), (⟨"PlayoutBufferModel", "arrives", "(I)I"⟩, 11), (⟨"PlayoutBufferModel", "isKnown", "(I)Z"⟩, 11), (⟨"PlayoutBufferModel", "begins", "()V"⟩, 11), (⟨"PlayoutBufferModel", "sees", "(I)V"⟩, 11), (⟨"PlayoutBufferModel", "area", "()I"⟩, 11), (⟨"PlayoutBufferModel", "restores", "(IZ)I"⟩, 11), (⟨"PlayoutBufferModel", "packet", "(ZII)I"⟩, 11), (⟨"PlayoutBufferModel", "restoresBy", "(ZII)I"⟩, 11), (⟨"PlayoutBufferModel", "missingOf", "(ZII)I"⟩, 11), (⟨"PlayoutBufferModel", "covers", "(Z)I"⟩, 11), (⟨"PlayoutBufferModel", "covered", "(ZIII)I"⟩, 11), (⟨"PlayoutBufferModel", "isPacket", "(ZII)Z"⟩, 11), (⟨"PlayoutBufferModel", "arrivesParity", "(ZII)I"⟩, 11), (⟨"PlayoutBufferModel", "tick", "()I"⟩, 11)]
theorem lw_r2 : ∀ q ∈ lw_privs_2, lw_okq q := List.forall_mem_cons.mpr ⟨lw_p16, List.forall_mem_cons.mpr ⟨lw_p17, List.forall_mem_cons.mpr ⟨lw_p18, List.forall_mem_cons.mpr ⟨lw_p19, List.forall_mem_cons.mpr ⟨lw_p20, List.forall_mem_cons.mpr ⟨lw_p21, List.forall_mem_cons.mpr ⟨lw_p22, List.forall_mem_cons.mpr ⟨lw_p23, List.forall_mem_cons.mpr ⟨lw_p24, List.forall_mem_cons.mpr ⟨lw_p25, List.forall_mem_cons.mpr ⟨lw_p26, List.forall_mem_cons.mpr ⟨lw_p27, List.forall_mem_cons.mpr ⟨lw_p28, List.forall_mem_cons.mpr ⟨lw_p29, List.forall_mem_cons.mpr ⟨lw_p30, List.forall_mem_cons.mpr ⟨lw_p31, fun _ h => absurd h List.not_mem_nil⟩⟩⟩⟩⟩⟩⟩⟩⟩⟩⟩⟩⟩⟩⟩⟩
theorem lw_p32 : lw_okq (⟨"PlayoutBufferModel", "arrivesBySchedule", "()V"⟩, 11) := ⟨⟨by decide +kernel, by decide +kernel⟩, List.mem_of_getElem? (i := 824) (by decide +kernel), List.mem_of_getElem? (i := 975) (by decide +kernel), List.mem_of_getElem? (i := 976) (by decide +kernel)⟩
theorem lw_p33 : lw_okq (⟨"PlayoutBufferModel", "takes", "()V"⟩, 11) := ⟨⟨by decide +kernel, by decide +kernel⟩, List.mem_of_getElem? (i := 824) (by decide +kernel), List.mem_of_getElem? (i := 979) (by decide +kernel), List.mem_of_getElem? (i := 980) (by decide +kernel)⟩
theorem lw_p34 : lw_okq (⟨"PlayoutBufferModel", "conceals", "()V"⟩, 11) := ⟨⟨by decide +kernel, by decide +kernel⟩, List.mem_of_getElem? (i := 824) (by decide +kernel), List.mem_of_getElem? (i := 983) (by decide +kernel), List.mem_of_getElem? (i := 984) (by decide +kernel)⟩
theorem lw_p35 : lw_okq (⟨"PlayoutBufferModel", "lagOfHistory", "()I"⟩, 11) := ⟨⟨by decide +kernel, by decide +kernel⟩, List.mem_of_getElem? (i := 824) (by decide +kernel), List.mem_of_getElem? (i := 987) (by decide +kernel), List.mem_of_getElem? (i := 988) (by decide +kernel)⟩
theorem lw_p36 : lw_okq (⟨"PlayoutBufferModel", "old", "(I)I"⟩, 11) := ⟨⟨by decide +kernel, by decide +kernel⟩, List.mem_of_getElem? (i := 824) (by decide +kernel), List.mem_of_getElem? (i := 991) (by decide +kernel), List.mem_of_getElem? (i := 992) (by decide +kernel)⟩
theorem lw_p37 : lw_okq (⟨"PlayoutBufferModel", "gives", "(I)V"⟩, 11) := ⟨⟨by decide +kernel, by decide +kernel⟩, List.mem_of_getElem? (i := 824) (by decide +kernel), List.mem_of_getElem? (i := 998) (by decide +kernel), List.mem_of_getElem? (i := 999) (by decide +kernel)⟩
theorem lw_p38 : lw_okq (⟨"PlayoutBufferModel", "fits", "(I)V"⟩, 11) := ⟨⟨by decide +kernel, by decide +kernel⟩, List.mem_of_getElem? (i := 824) (by decide +kernel), List.mem_of_getElem? (i := 1002) (by decide +kernel), List.mem_of_getElem? (i := 1003) (by decide +kernel)⟩
theorem lw_p39 : lw_okq (⟨"PlayoutBufferModel", "sampleOf", "(II)I"⟩, 11) := ⟨⟨by decide +kernel, by decide +kernel⟩, List.mem_of_getElem? (i := 824) (by decide +kernel), List.mem_of_getElem? (i := 1006) (by decide +kernel), List.mem_of_getElem? (i := 1007) (by decide +kernel)⟩
theorem lw_p40 : lw_okq (⟨"PlayoutBufferModel", "levelFrom", "(I)I"⟩, 11) := ⟨⟨by decide +kernel, by decide +kernel⟩, List.mem_of_getElem? (i := 824) (by decide +kernel), List.mem_of_getElem? (i := 1010) (by decide +kernel), List.mem_of_getElem? (i := 1011) (by decide +kernel)⟩
theorem lw_p41 : lw_okq (⟨"PlayoutBufferModel", "targetNow", "()I"⟩, 11) := ⟨⟨by decide +kernel, by decide +kernel⟩, List.mem_of_getElem? (i := 824) (by decide +kernel), List.mem_of_getElem? (i := 1014) (by decide +kernel), List.mem_of_getElem? (i := 1015) (by decide +kernel)⟩
theorem lw_p42 : lw_okq (⟨"PlayoutBufferModel", "sorts", "()V"⟩, 11) := ⟨⟨by decide +kernel, by decide +kernel⟩, List.mem_of_getElem? (i := 824) (by decide +kernel), List.mem_of_getElem? (i := 1018) (by decide +kernel), List.mem_of_getElem? (i := 1019) (by decide +kernel)⟩
theorem lw_p43 : lw_okq (⟨"PlayoutBufferModel", "lagOfFrame", "()I"⟩, 11) := ⟨⟨by decide +kernel, by decide +kernel⟩, List.mem_of_getElem? (i := 824) (by decide +kernel), List.mem_of_getElem? (i := 1022) (by decide +kernel), List.mem_of_getElem? (i := 1023) (by decide +kernel)⟩
theorem lw_p44 : lw_okq (⟨"PlayoutBufferModel", "keeps", "()V"⟩, 11) := ⟨⟨by decide +kernel, by decide +kernel⟩, List.mem_of_getElem? (i := 824) (by decide +kernel), List.mem_of_getElem? (i := 1073) (by decide +kernel), List.mem_of_getElem? (i := 1074) (by decide +kernel)⟩
theorem lw_p45 : lw_okq (⟨"PlayoutBufferModel", "brings", "()V"⟩, 11) := ⟨⟨by decide +kernel, by decide +kernel⟩, List.mem_of_getElem? (i := 824) (by decide +kernel), List.mem_of_getElem? (i := 1077) (by decide +kernel), List.mem_of_getElem? (i := 1078) (by decide +kernel)⟩
theorem lw_p46 : lw_okq (⟨"PlayoutBufferModel", "isText", "()Z"⟩, 11) := ⟨⟨by decide +kernel, by decide +kernel⟩, List.mem_of_getElem? (i := 824) (by decide +kernel), List.mem_of_getElem? (i := 1153) (by decide +kernel), List.mem_of_getElem? (i := 1154) (by decide +kernel)⟩
theorem lw_p47 : lw_okq (⟨"PlayoutBufferModel", "isEntry", "()Z"⟩, 11) := ⟨⟨by decide +kernel, by decide +kernel⟩, List.mem_of_getElem? (i := 824) (by decide +kernel), List.mem_of_getElem? (i := 1157) (by decide +kernel), List.mem_of_getElem? (i := 1158) (by decide +kernel)⟩
def lw_privs_3 : List (MethodName × Nat) := [(⟨"PlayoutBufferModel", "arrivesBySchedule", "()V"⟩, 11), (⟨"PlayoutBufferModel", "takes", "()V"⟩, 11), (⟨"PlayoutBufferModel", "conceals", "()V"⟩, 11), (⟨"PlayoutBufferModel", "lagOfHistory", "()I"⟩, 11), (⟨"PlayoutBufferModel", "old", "(I)I"⟩, 11), (⟨"PlayoutBufferModel", "gives", "(I)V"⟩, 11), (⟨"PlayoutBufferModel", "fits", "(I)V"⟩, 11), (⟨"PlayoutBufferModel", "sampleOf", "(II)I"⟩, 11), (⟨"PlayoutBufferModel", "levelFrom", "(I)I"⟩, 11), (⟨"PlayoutBufferModel", "targetNow", "()I"⟩, 11), (⟨"PlayoutBufferModel", "sorts", "()V"⟩, 11), (⟨"PlayoutBufferModel", "lagOfFrame", "()I"⟩, 11), (⟨"PlayoutBufferModel", "keeps", "()V"⟩, 11), (⟨"PlayoutBufferModel", "brings", "()V"⟩, 11), (⟨"PlayoutBufferModel", "isText", "()Z"⟩, 11), (⟨"PlayoutBufferModel", "isEntry", "()Z"⟩, 11)]
theorem lw_r3 : ∀ q ∈ lw_privs_3, lw_okq q := List.forall_mem_cons.mpr ⟨lw_p32, List.forall_mem_cons.mpr ⟨lw_p33, List.forall_mem_cons.mpr ⟨lw_p34, List.forall_mem_cons.mpr ⟨lw_p35, List.forall_mem_cons.mpr ⟨lw_p36, List.forall_mem_cons.mpr ⟨lw_p37, List.forall_mem_cons.mpr ⟨lw_p38, List.forall_mem_cons.mpr ⟨lw_p39, List.forall_mem_cons.mpr ⟨lw_p40, List.forall_mem_cons.mpr ⟨lw_p41, List.forall_mem_cons.mpr ⟨lw_p42, List.forall_mem_cons.mpr ⟨lw_p43, List.forall_mem_cons.mpr ⟨lw_p44, List.forall_mem_cons.mpr ⟨lw_p45, List.forall_mem_cons.mpr ⟨lw_p46, List.forall_mem_cons.mpr ⟨lw_p47, fun _ h => absurd h List.not_mem_nil⟩⟩⟩⟩⟩⟩⟩⟩⟩⟩⟩⟩⟩⟩⟩⟩
theorem lw_p48 : lw_okq (⟨"PlayoutBufferModel", "here", "()I"⟩, 11) := ⟨⟨by decide +kernel, by decide +kernel⟩, List.mem_of_getElem? (i := 824) (by decide +kernel), List.mem_of_getElem? (i := 1161) (by decide +kernel), List.mem_of_getElem? (i := 1162) (by decide +kernel)⟩
theorem lw_p49 : lw_okq (⟨"PlayoutBufferModel", "number", "()I"⟩, 11) := ⟨⟨by decide +kernel, by decide +kernel⟩, List.mem_of_getElem? (i := 824) (by decide +kernel), List.mem_of_getElem? (i := 1165) (by decide +kernel), List.mem_of_getElem? (i := 1166) (by decide +kernel)⟩
theorem lw_p50 : lw_okq (⟨"PlayoutBufferModel", "takes", "(I)Z"⟩, 11) := ⟨⟨by decide +kernel, by decide +kernel⟩, List.mem_of_getElem? (i := 824) (by decide +kernel), List.mem_of_getElem? (i := 1169) (by decide +kernel), List.mem_of_getElem? (i := 1170) (by decide +kernel)⟩
theorem lw_p51 : lw_okq (⟨"PlayoutBufferModel", "isArrival", "(I)Z"⟩, 11) := ⟨⟨by decide +kernel, by decide +kernel⟩, List.mem_of_getElem? (i := 824) (by decide +kernel), List.mem_of_getElem? (i := 1177) (by decide +kernel), List.mem_of_getElem? (i := 1178) (by decide +kernel)⟩
def lw_privs_4 : List (MethodName × Nat) := [(⟨"PlayoutBufferModel", "here", "()I"⟩, 11), (⟨"PlayoutBufferModel", "number", "()I"⟩, 11), (⟨"PlayoutBufferModel", "takes", "(I)Z"⟩, 11), (⟨"PlayoutBufferModel", "isArrival", "(I)Z"⟩, 11)]
theorem lw_r4 : ∀ q ∈ lw_privs_4, lw_okq q := List.forall_mem_cons.mpr ⟨lw_p48, List.forall_mem_cons.mpr ⟨lw_p49, List.forall_mem_cons.mpr ⟨lw_p50, List.forall_mem_cons.mpr ⟨lw_p51, fun _ h => absurd h List.not_mem_nil⟩⟩⟩⟩
def lw_privs : List (MethodName × Nat) := lw_privs_1 ++ (lw_privs_2 ++ (lw_privs_3 ++ (lw_privs_4)))
def lw_tbl : List Cond := k2_sels lw_privs ++ tables_1
theorem lw_privs_ok : ∀ q ∈ lw_privs, lw_okq q := by
  show ∀ q ∈ lw_privs_1 ++ (lw_privs_2 ++ (lw_privs_3 ++ (lw_privs_4))), lw_okq q
  exact List.forall_mem_append.mpr ⟨lw_r1, List.forall_mem_append.mpr ⟨lw_r2, List.forall_mem_append.mpr ⟨lw_r3, lw_r4⟩⟩⟩

def RX0 : String := "PlayoutBuffer$ArrivalText"
def TX0 : u_T := fun k => match k with
  | 0 => ("PlayoutBuffer$ArrivalText", "characters", "[I", true)
  | 1 => ("PlayoutBuffer$ArrivalText", "length", "I", false)
  | 2 => ("PlayoutBuffer$ArrivalText", "expected", "I", false)
  | 3 => ("PlayoutBuffer$ArrivalText", "digits", "I", false)
  | 4 => ("PlayoutBuffer$ArrivalText", "value", "I", false)
  | 5 => ("PlayoutBuffer$ArrivalText", "kind", "I", false)
  | 6 => ("PlayoutBuffer$ArrivalText", "number", "I", false)
  | _ => ("PlayoutBuffer$ArrivalText", "index", "I", false)
def tyX0 : Nat → FieldType := fun k => match k with
  | 0 => .array .int
  | 1 => .int
  | 2 => .int
  | 3 => .int
  | 4 => .int
  | 5 => .int
  | 6 => .int
  | _ => .int
abbrev wsX00 : List Cond := u_ws RX0 TX0 8
theorem nmX0 : ∀ a, a < 8 → ∀ b, b < 8 → a ≠ b → (TX0 a).2.1 ≠ (TX0 b).2.1 := by decide +kernel
theorem tyX0_ok : ∀ k, k < 8 → parseFieldDescriptor (TX0 k).2.2.1 = some (tyX0 k) := by decide +kernel
abbrev cX0_init : ByteArray := prog_2_method_1_code
def yX0_init : MethodName := ⟨RX0, "<init>", "()V"⟩
abbrev cX0_write : ByteArray := prog_2_method_2_code
def yX0_write : MethodName := ⟨RX0, "write", "(I)V"⟩
abbrev cX0_readInto : ByteArray := prog_2_method_3_code
def yX0_readInto : MethodName := ⟨RX0, "readInto", "(LPlayoutBuffer$Arrivals;)I"⟩
abbrev cX0_follows : ByteArray := prog_2_method_4_code
def yX0_follows : MethodName := ⟨RX0, "follows", "(ILPlayoutBuffer$Arrivals;)Z"⟩
abbrev cX0_beginsEntry : ByteArray := prog_2_method_5_code
def yX0_beginsEntry : MethodName := ⟨RX0, "beginsEntry", "(I)Z"⟩
abbrev cX0_endOfNumber : ByteArray := prog_2_method_6_code
def yX0_endOfNumber : MethodName := ⟨RX0, "endOfNumber", "()I"⟩
abbrev cX0_endNumber : ByteArray := prog_2_method_7_code
def yX0_endNumber : MethodName := ⟨RX0, "endNumber", "(LPlayoutBuffer$Arrivals;)V"⟩
abbrev cX0_expect : ByteArray := prog_2_method_8_code
def yX0_expect : MethodName := ⟨RX0, "expect", "(I)V"⟩
def RX1 : String := "PlayoutBuffer$Arrivals"
def TX1 : u_T := fun k => match k with
  | 0 => ("PlayoutBuffer$Arrivals", "kinds", "[I", true)
  | 1 => ("PlayoutBuffer$Arrivals", "numbers", "[I", true)
  | 2 => ("PlayoutBuffer$Arrivals", "indexes", "[I", true)
  | 3 => ("PlayoutBuffer$Arrivals", "times", "[I", true)
  | _ => ("PlayoutBuffer$Arrivals", "size", "I", false)
def tyX1 : Nat → FieldType := fun k => match k with
  | 0 => .array .int
  | 1 => .array .int
  | 2 => .array .int
  | 3 => .array .int
  | _ => .int
abbrev wsX10 : List Cond := u_ws RX1 TX1 5
theorem nmX1 : ∀ a, a < 5 → ∀ b, b < 5 → a ≠ b → (TX1 a).2.1 ≠ (TX1 b).2.1 := by decide +kernel
theorem tyX1_ok : ∀ k, k < 5 → parseFieldDescriptor (TX1 k).2.2.1 = some (tyX1 k) := by decide +kernel
abbrev cX1_init : ByteArray := prog_3_method_1_code
def yX1_init : MethodName := ⟨RX1, "<init>", "()V"⟩
abbrev cX1_copyFrom : ByteArray := prog_3_method_2_code
def yX1_copyFrom : MethodName := ⟨RX1, "copyFrom", "(LPlayoutBuffer$Arrivals;)V"⟩
abbrev cX1_addAll : ByteArray := prog_3_method_3_code
def yX1_addAll : MethodName := ⟨RX1, "addAll", "(LPlayoutBuffer$Arrivals;)V"⟩
abbrev cX1_add : ByteArray := prog_3_method_4_code
def yX1_add : MethodName := ⟨RX1, "add", "(IIII)V"⟩
abbrev cX1_removeAllAt : ByteArray := prog_3_method_5_code
def yX1_removeAllAt : MethodName := ⟨RX1, "removeAllAt", "(I)V"⟩
def RX2 : String := "PlayoutBuffer$Counters"
def TX2 : u_T := fun k => match k with
  | 0 => ("PlayoutBuffer$Counters", "played", "I", false)
  | 1 => ("PlayoutBuffer$Counters", "restored", "I", false)
  | 2 => ("PlayoutBuffer$Counters", "concealed", "I", false)
  | 3 => ("PlayoutBuffer$Counters", "stretched", "I", false)
  | 4 => ("PlayoutBuffer$Counters", "compressed", "I", false)
  | 5 => ("PlayoutBuffer$Counters", "late", "I", false)
  | 6 => ("PlayoutBuffer$Counters", "duplicates", "I", false)
  | 7 => ("PlayoutBuffer$Counters", "gap", "I", false)
  | _ => ("PlayoutBuffer$Counters", "longestGap", "I", false)
def tyX2 : Nat → FieldType := fun k => match k with
  | 0 => .int
  | 1 => .int
  | 2 => .int
  | 3 => .int
  | 4 => .int
  | 5 => .int
  | 6 => .int
  | 7 => .int
  | _ => .int
abbrev wsX20 : List Cond := u_ws RX2 TX2 9
theorem nmX2 : ∀ a, a < 9 → ∀ b, b < 9 → a ≠ b → (TX2 a).2.1 ≠ (TX2 b).2.1 := by decide +kernel
theorem tyX2_ok : ∀ k, k < 9 → parseFieldDescriptor (TX2 k).2.2.1 = some (tyX2 k) := by decide +kernel
abbrev cX2_init : ByteArray := prog_4_method_1_code
def yX2_init : MethodName := ⟨RX2, "<init>", "()V"⟩
abbrev cX2_copyFrom : ByteArray := prog_4_method_2_code
def yX2_copyFrom : MethodName := ⟨RX2, "copyFrom", "(LPlayoutBuffer$Counters;)V"⟩
abbrev cX2_takenAs : ByteArray := prog_4_method_3_code
def yX2_takenAs : MethodName := ⟨RX2, "takenAs", "(I)I"⟩
abbrev cX2_countKnown : ByteArray := prog_4_method_4_code
def yX2_countKnown : MethodName := ⟨RX2, "countKnown", "(I)V"⟩
abbrev cX2_countConcealed : ByteArray := prog_4_method_5_code
def yX2_countConcealed : MethodName := ⟨RX2, "countConcealed", "()V"⟩
def RX3 : String := "PlayoutBuffer$Frames"
def TX3 : u_T := fun k => match k with
  | 0 => ("PlayoutBuffer$Frames", "known", "[J", true)
  | 1 => ("PlayoutBuffer$Frames", "arrived", "[J", true)
  | _ => ("PlayoutBuffer$Frames", "packets", "[I", true)
def tyX3 : Nat → FieldType := fun k => match k with
  | 0 => .array .long
  | 1 => .array .long
  | _ => .array .int
abbrev wsX30 : List Cond := u_ws RX3 TX3 3
theorem nmX3 : ∀ a, a < 3 → ∀ b, b < 3 → a ≠ b → (TX3 a).2.1 ≠ (TX3 b).2.1 := by decide +kernel
theorem tyX3_ok : ∀ k, k < 3 → parseFieldDescriptor (TX3 k).2.2.1 = some (tyX3 k) := by decide +kernel
abbrev cX3_init : ByteArray := prog_5_method_1_code
def yX3_init : MethodName := ⟨RX3, "<init>", "()V"⟩
abbrev cX3_copyFrom : ByteArray := prog_5_method_2_code
def yX3_copyFrom : MethodName := ⟨RX3, "copyFrom", "(LPlayoutBuffer$Frames;)V"⟩
abbrev cX3_stateOf : ByteArray := prog_5_method_3_code
def yX3_stateOf : MethodName := ⟨RX3, "stateOf", "(LPlayoutBuffer$Settings;I)I"⟩
abbrev cX3_hasPacket : ByteArray := prog_5_method_4_code
def yX3_hasPacket : MethodName := ⟨RX3, "hasPacket", "(ZII)Z"⟩
abbrev cX3_addFrame : ByteArray := prog_5_method_5_code
def yX3_addFrame : MethodName := ⟨RX3, "addFrame", "(LPlayoutBuffer$Settings;I)V"⟩
abbrev cX3_addPacket : ByteArray := prog_5_method_6_code
def yX3_addPacket : MethodName := ⟨RX3, "addPacket", "(ZII)V"⟩
abbrev cX3_restoreIn : ByteArray := prog_5_method_7_code
def yX3_restoreIn : MethodName := ⟨RX3, "restoreIn", "(LPlayoutBuffer$Settings;I)I"⟩
abbrev cX3_missingIn : ByteArray := prog_5_method_8_code
def yX3_missingIn : MethodName := ⟨RX3, "missingIn", "(LPlayoutBuffer$Settings;ZII)I"⟩
abbrev cX3_unrestorableIn : ByteArray := prog_5_method_9_code
def yX3_unrestorableIn : MethodName := ⟨RX3, "unrestorableIn", "(LPlayoutBuffer$Settings;I)I"⟩
abbrev cX3_knownFrom : ByteArray := prog_5_method_10_code
def yX3_knownFrom : MethodName := ⟨RX3, "knownFrom", "(LPlayoutBuffer$Settings;I)I"⟩
abbrev cX3_knownIn : ByteArray := prog_5_method_11_code
def yX3_knownIn : MethodName := ⟨RX3, "knownIn", "(LPlayoutBuffer$Settings;I)J"⟩
abbrev cX3_completed : ByteArray := prog_5_method_12_code
def yX3_completed : MethodName := ⟨RX3, "completed", "(LPlayoutBuffer$Settings;JI)J"⟩
abbrev cX3_withLine : ByteArray := prog_5_method_13_code
def yX3_withLine : MethodName := ⟨RX3, "withLine", "(LPlayoutBuffer$Settings;JIZI)J"⟩
abbrev cX3_packetBit : ByteArray := prog_5_method_14_code
def yX3_packetBit : MethodName := ⟨RX3, "packetBit", "(ZI)I"⟩
abbrev cX3_lineBits : ByteArray := prog_5_method_15_code
def yX3_lineBits : MethodName := ⟨RX3, "lineBits", "(LPlayoutBuffer$Settings;ZI)J"⟩
def RX4 : String := "PlayoutBuffer$Player"
def TX4 : u_T := fun k => match k with
  | 0 => ("PlayoutBuffer$Player", "frame", "[I", true)
  | 1 => ("PlayoutBuffer$Player", "length", "I", false)
  | 2 => ("PlayoutBuffer$Player", "position", "I", false)
  | 3 => ("PlayoutBuffer$Player", "history", "[I", true)
  | 4 => ("PlayoutBuffer$Player", "outputs", "I", false)
  | 5 => ("PlayoutBuffer$Player", "kinds", "[I", true)
  | 6 => ("PlayoutBuffer$Player", "next", "I", false)
  | _ => ("PlayoutBuffer$Player", "source", "[I", true)
def tyX4 : Nat → FieldType := fun k => match k with
  | 0 => .array .int
  | 1 => .int
  | 2 => .int
  | 3 => .array .int
  | 4 => .int
  | 5 => .array .int
  | 6 => .int
  | _ => .array .int
abbrev wsX40 : List Cond := u_ws RX4 TX4 8
theorem nmX4 : ∀ a, a < 8 → ∀ b, b < 8 → a ≠ b → (TX4 a).2.1 ≠ (TX4 b).2.1 := by decide +kernel
theorem tyX4_ok : ∀ k, k < 8 → parseFieldDescriptor (TX4 k).2.2.1 = some (tyX4 k) := by decide +kernel
abbrev cX4_init : ByteArray := prog_6_method_1_code
def yX4_init : MethodName := ⟨RX4, "<init>", "()V"⟩
abbrev cX4_copyFrom : ByteArray := prog_6_method_2_code
def yX4_copyFrom : MethodName := ⟨RX4, "copyFrom", "(LPlayoutBuffer$Player;)V"⟩
abbrev cX4_remaining : ByteArray := prog_6_method_3_code
def yX4_remaining : MethodName := ⟨RX4, "remaining", "()I"⟩
abbrev cX4_outputAt : ByteArray := prog_6_method_4_code
def yX4_outputAt : MethodName := ⟨RX4, "outputAt", "(I)I"⟩
abbrev cX4_kindAt : ByteArray := prog_6_method_5_code
def yX4_kindAt : MethodName := ⟨RX4, "kindAt", "(I)I"⟩
abbrev cX4_putOut : ByteArray := prog_6_method_6_code
def yX4_putOut : MethodName := ⟨RX4, "putOut", "()V"⟩
abbrev cX4_begin : ByteArray := prog_6_method_7_code
def yX4_begin : MethodName := ⟨RX4, "begin", "(I)V"⟩
abbrev cX4_loadWave : ByteArray := prog_6_method_8_code
def yX4_loadWave : MethodName := ⟨RX4, "loadWave", "(LPlayoutBuffer$Settings;I)V"⟩
abbrev cX4_putAsItIs : ByteArray := prog_6_method_9_code
def yX4_putAsItIs : MethodName := ⟨RX4, "putAsItIs", "(I)V"⟩
abbrev cX4_putCompressed : ByteArray := prog_6_method_10_code
def yX4_putCompressed : MethodName := ⟨RX4, "putCompressed", "(I)V"⟩
abbrev cX4_putStretched : ByteArray := prog_6_method_11_code
def yX4_putStretched : MethodName := ⟨RX4, "putStretched", "(I)V"⟩
abbrev cX4_putConcealed : ByteArray := prog_6_method_12_code
def yX4_putConcealed : MethodName := ⟨RX4, "putConcealed", "(II)V"⟩
abbrev cX4_putSource : ByteArray := prog_6_method_13_code
def yX4_putSource : MethodName := ⟨RX4, "putSource", "(II)V"⟩
abbrev cX4_put : ByteArray := prog_6_method_14_code
def yX4_put : MethodName := ⟨RX4, "put", "(I)V"⟩
abbrev cX4_bestLag : ByteArray := prog_6_method_15_code
def yX4_bestLag : MethodName := ⟨RX4, "bestLag", "(IZ)I"⟩
abbrev cX4_differences : ByteArray := prog_6_method_16_code
def yX4_differences : MethodName := ⟨RX4, "differences", "(I)I"⟩
abbrev cX4_faded : ByteArray := prog_6_method_17_code
def yX4_faded : MethodName := ⟨RX4, "faded", "(II)I"⟩
def RX5 : String := "PlayoutBuffer$Receiver"
def TX5 : u_T := fun k => match k with
  | 0 => ("PlayoutBuffer$Receiver", "settings", "LPlayoutBuffer$Settings;", true)
  | 1 => ("PlayoutBuffer$Receiver", "frames", "LPlayoutBuffer$Frames;", true)
  | 2 => ("PlayoutBuffer$Receiver", "transits", "LPlayoutBuffer$Transits;", true)
  | 3 => ("PlayoutBuffer$Receiver", "player", "LPlayoutBuffer$Player;", true)
  | 4 => ("PlayoutBuffer$Receiver", "counters", "LPlayoutBuffer$Counters;", true)
  | 5 => ("PlayoutBuffer$Receiver", "schedule", "LPlayoutBuffer$Arrivals;", true)
  | 6 => ("PlayoutBuffer$Receiver", "time", "I", false)
  | 7 => ("PlayoutBuffer$Receiver", "started", "Z", false)
  | _ => ("PlayoutBuffer$Receiver", "start", "I", false)
def tyX5 : Nat → FieldType := fun k => match k with
  | 0 => .object "PlayoutBuffer$Settings"
  | 1 => .object "PlayoutBuffer$Frames"
  | 2 => .object "PlayoutBuffer$Transits"
  | 3 => .object "PlayoutBuffer$Player"
  | 4 => .object "PlayoutBuffer$Counters"
  | 5 => .object "PlayoutBuffer$Arrivals"
  | 6 => .int
  | 7 => .boolean
  | _ => .int
abbrev wsX50 : List Cond := u_ws RX5 TX5 9
theorem nmX5 : ∀ a, a < 9 → ∀ b, b < 9 → a ≠ b → (TX5 a).2.1 ≠ (TX5 b).2.1 := by decide +kernel
theorem tyX5_ok : ∀ k, k < 9 → parseFieldDescriptor (TX5 k).2.2.1 = some (tyX5 k) := by decide +kernel
abbrev cX5_init : ByteArray := prog_7_method_1_code
def yX5_init : MethodName := ⟨RX5, "<init>", "()V"⟩
abbrev cX5_copyFrom : ByteArray := prog_7_method_2_code
def yX5_copyFrom : MethodName := ⟨RX5, "copyFrom", "(LPlayoutBuffer$Receiver;)V"⟩
abbrev cX5_hasBegun : ByteArray := prog_7_method_3_code
def yX5_hasBegun : MethodName := ⟨RX5, "hasBegun", "()Z"⟩
abbrev cX5_targetNow : ByteArray := prog_7_method_4_code
def yX5_targetNow : MethodName := ⟨RX5, "targetNow", "()I"⟩
abbrev cX5_levelFrom : ByteArray := prog_7_method_5_code
def yX5_levelFrom : MethodName := ⟨RX5, "levelFrom", "(I)I"⟩
abbrev cX5_acceptFrame : ByteArray := prog_7_method_6_code
def yX5_acceptFrame : MethodName := ⟨RX5, "acceptFrame", "(I)I"⟩
abbrev cX5_acceptPacket : ByteArray := prog_7_method_7_code
def yX5_acceptPacket : MethodName := ⟨RX5, "acceptPacket", "(ZII)I"⟩
abbrev cX5_passTick : ByteArray := prog_7_method_8_code
def yX5_passTick : MethodName := ⟨RX5, "passTick", "()V"⟩
abbrev cX5_startOnce : ByteArray := prog_7_method_9_code
def yX5_startOnce : MethodName := ⟨RX5, "startOnce", "()V"⟩
abbrev cX5_acceptDue : ByteArray := prog_7_method_10_code
def yX5_acceptDue : MethodName := ⟨RX5, "acceptDue", "()V"⟩
abbrev cX5_takeFrame : ByteArray := prog_7_method_11_code
def yX5_takeFrame : MethodName := ⟨RX5, "takeFrame", "(I)V"⟩
abbrev cX5_putKnown : ByteArray := prog_7_method_12_code
def yX5_putKnown : MethodName := ⟨RX5, "putKnown", "(I)V"⟩
def RX6 : String := "PlayoutBuffer$Settings"
def TX6 : u_T := fun k => match k with
  | 0 => ("PlayoutBuffer$Settings", "samples", "I", false)
  | 1 => ("PlayoutBuffer$Settings", "period", "I", false)
  | 2 => ("PlayoutBuffer$Settings", "slope", "I", false)
  | 3 => ("PlayoutBuffer$Settings", "columns", "I", false)
  | 4 => ("PlayoutBuffer$Settings", "rows", "I", false)
  | 5 => ("PlayoutBuffer$Settings", "initialDelay", "I", false)
  | 6 => ("PlayoutBuffer$Settings", "quantile", "I", false)
  | 7 => ("PlayoutBuffer$Settings", "margin", "I", false)
  | _ => ("PlayoutBuffer$Settings", "adapting", "Z", false)
def tyX6 : Nat → FieldType := fun k => match k with
  | 0 => .int
  | 1 => .int
  | 2 => .int
  | 3 => .int
  | 4 => .int
  | 5 => .int
  | 6 => .int
  | 7 => .int
  | _ => .boolean
abbrev wsX60 : List Cond := u_ws RX6 TX6 9
theorem nmX6 : ∀ a, a < 9 → ∀ b, b < 9 → a ≠ b → (TX6 a).2.1 ≠ (TX6 b).2.1 := by decide +kernel
theorem tyX6_ok : ∀ k, k < 9 → parseFieldDescriptor (TX6 k).2.2.1 = some (tyX6 k) := by decide +kernel
abbrev cX6_init : ByteArray := prog_8_method_1_code
def yX6_init : MethodName := ⟨RX6, "<init>", "()V"⟩
abbrev cX6_copyFrom : ByteArray := prog_8_method_2_code
def yX6_copyFrom : MethodName := ⟨RX6, "copyFrom", "(LPlayoutBuffer$Settings;)V"⟩
abbrev cX6_waveAt : ByteArray := prog_8_method_3_code
def yX6_waveAt : MethodName := ⟨RX6, "waveAt", "(II)I"⟩
abbrev cX6_cells : ByteArray := prog_8_method_4_code
def yX6_cells : MethodName := ⟨RX6, "cells", "()I"⟩
abbrev cX6_hasBlock : ByteArray := prog_8_method_5_code
def yX6_hasBlock : MethodName := ⟨RX6, "hasBlock", "(I)Z"⟩
abbrev cX6_hasPacket : ByteArray := prog_8_method_6_code
def yX6_hasPacket : MethodName := ⟨RX6, "hasPacket", "(ZII)Z"⟩
abbrev cX6_coveredFrame : ByteArray := prog_8_method_7_code
def yX6_coveredFrame : MethodName := ⟨RX6, "coveredFrame", "(ZIII)I"⟩
def RX7 : String := "PlayoutBuffer$Transits"
def TX7 : u_T := fun k => match k with
  | 0 => ("PlayoutBuffer$Transits", "latest", "[I", true)
  | 1 => ("PlayoutBuffer$Transits", "ascending", "[I", true)
  | 2 => ("PlayoutBuffer$Transits", "count", "I", false)
  | _ => ("PlayoutBuffer$Transits", "place", "I", false)
def tyX7 : Nat → FieldType := fun k => match k with
  | 0 => .array .int
  | 1 => .array .int
  | 2 => .int
  | _ => .int
abbrev wsX70 : List Cond := u_ws RX7 TX7 4
theorem nmX7 : ∀ a, a < 4 → ∀ b, b < 4 → a ≠ b → (TX7 a).2.1 ≠ (TX7 b).2.1 := by decide +kernel
theorem tyX7_ok : ∀ k, k < 4 → parseFieldDescriptor (TX7 k).2.2.1 = some (tyX7 k) := by decide +kernel
abbrev cX7_init : ByteArray := prog_9_method_1_code
def yX7_init : MethodName := ⟨RX7, "<init>", "()V"⟩
abbrev cX7_copyFrom : ByteArray := prog_9_method_2_code
def yX7_copyFrom : MethodName := ⟨RX7, "copyFrom", "(LPlayoutBuffer$Transits;)V"⟩
abbrev cX7_add : ByteArray := prog_9_method_3_code
def yX7_add : MethodName := ⟨RX7, "add", "(I)V"⟩
abbrev cX7_ascendingAt : ByteArray := prog_9_method_4_code
def yX7_ascendingAt : MethodName := ⟨RX7, "ascendingAt", "(I)I"⟩
abbrev cX7_spread : ByteArray := prog_9_method_5_code
def yX7_spread : MethodName := ⟨RX7, "spread", "(I)I"⟩
abbrev cX7_insert : ByteArray := prog_9_method_6_code
def yX7_insert : MethodName := ⟨RX7, "insert", "(II)V"⟩
def RX8 : String := "PlayoutBuffer"
def TX8 : u_T := fun k => match k with
  | 0 => ("PlayoutBuffer", "receiver", "LPlayoutBuffer$Receiver;", true)
  | 1 => ("PlayoutBuffer", "forecast", "LPlayoutBuffer$Receiver;", true)
  | 2 => ("PlayoutBuffer", "slots", "[LPlayoutBuffer$Receiver;", true)
  | 3 => ("PlayoutBuffer", "text", "LPlayoutBuffer$ArrivalText;", true)
  | _ => ("PlayoutBuffer", "described", "LPlayoutBuffer$Arrivals;", true)
def tyX8 : Nat → FieldType := fun k => match k with
  | 0 => .object "PlayoutBuffer$Receiver"
  | 1 => .object "PlayoutBuffer$Receiver"
  | 2 => .array (.object "PlayoutBuffer$Receiver")
  | 3 => .object "PlayoutBuffer$ArrivalText"
  | _ => .object "PlayoutBuffer$Arrivals"
abbrev wsX80 : List Cond := u_ws RX8 TX8 5
theorem nmX8 : ∀ a, a < 5 → ∀ b, b < 5 → a ≠ b → (TX8 a).2.1 ≠ (TX8 b).2.1 := by decide +kernel
theorem tyX8_ok : ∀ k, k < 5 → parseFieldDescriptor (TX8 k).2.2.1 = some (tyX8 k) := by decide +kernel
abbrev cX8_init : ByteArray := prog_1_method_1_code
def yX8_init : MethodName := ⟨RX8, "<init>", "()V"⟩
abbrev cX8_setFrame : ByteArray := prog_1_method_2_code
def yX8_setFrame : MethodName := ⟨RX8, "setFrame", "(I)I"⟩
abbrev cX8_setWave : ByteArray := prog_1_method_3_code
def yX8_setWave : MethodName := ⟨RX8, "setWave", "(II)I"⟩
abbrev cX8_setBlock : ByteArray := prog_1_method_4_code
def yX8_setBlock : MethodName := ⟨RX8, "setBlock", "(II)I"⟩
abbrev cX8_setInitialDelay : ByteArray := prog_1_method_5_code
def yX8_setInitialDelay : MethodName := ⟨RX8, "setInitialDelay", "(I)I"⟩
abbrev cX8_setQuantile : ByteArray := prog_1_method_6_code
def yX8_setQuantile : MethodName := ⟨RX8, "setQuantile", "(I)I"⟩
abbrev cX8_setMargin : ByteArray := prog_1_method_7_code
def yX8_setMargin : MethodName := ⟨RX8, "setMargin", "(I)I"⟩
abbrev cX8_setAdapting : ByteArray := prog_1_method_8_code
def yX8_setAdapting : MethodName := ⟨RX8, "setAdapting", "(Z)I"⟩
abbrev cX8_arrive : ByteArray := prog_1_method_9_code
def yX8_arrive : MethodName := ⟨RX8, "arrive", "(I)I"⟩
abbrev cX8_arriveParity : ByteArray := prog_1_method_10_code
def yX8_arriveParity : MethodName := ⟨RX8, "arriveParity", "(ZII)I"⟩
abbrev cX8_advance : ByteArray := prog_1_method_11_code
def yX8_advance : MethodName := ⟨RX8, "advance", "(I)I"⟩
abbrev cX8_time : ByteArray := prog_1_method_12_code
def yX8_time : MethodName := ⟨RX8, "time", "()I"⟩
abbrev cX8_start : ByteArray := prog_1_method_13_code
def yX8_start : MethodName := ⟨RX8, "start", "()I"⟩
abbrev cX8_output : ByteArray := prog_1_method_14_code
def yX8_output : MethodName := ⟨RX8, "output", "(I)I"⟩
abbrev cX8_outputs : ByteArray := prog_1_method_15_code
def yX8_outputs : MethodName := ⟨RX8, "outputs", "()I"⟩
abbrev cX8_left : ByteArray := prog_1_method_16_code
def yX8_left : MethodName := ⟨RX8, "left", "()I"⟩
abbrev cX8_next : ByteArray := prog_1_method_17_code
def yX8_next : MethodName := ⟨RX8, "next", "()I"⟩
abbrev cX8_kind : ByteArray := prog_1_method_18_code
def yX8_kind : MethodName := ⟨RX8, "kind", "(I)I"⟩
abbrev cX8_state : ByteArray := prog_1_method_19_code
def yX8_state : MethodName := ⟨RX8, "state", "(I)I"⟩
abbrev cX8_sample : ByteArray := prog_1_method_20_code
def yX8_sample : MethodName := ⟨RX8, "sample", "(II)I"⟩
abbrev cX8_missing : ByteArray := prog_1_method_21_code
def yX8_missing : MethodName := ⟨RX8, "missing", "(ZII)I"⟩
abbrev cX8_unrestorable : ByteArray := prog_1_method_22_code
def yX8_unrestorable : MethodName := ⟨RX8, "unrestorable", "(I)I"⟩
abbrev cX8_paritySample : ByteArray := prog_1_method_23_code
def yX8_paritySample : MethodName := ⟨RX8, "paritySample", "(ZIII)I"⟩
abbrev cX8_transits : ByteArray := prog_1_method_24_code
def yX8_transits : MethodName := ⟨RX8, "transits", "()I"⟩
abbrev cX8_transit : ByteArray := prog_1_method_25_code
def yX8_transit : MethodName := ⟨RX8, "transit", "(I)I"⟩
abbrev cX8_target : ByteArray := prog_1_method_26_code
def yX8_target : MethodName := ⟨RX8, "target", "()I"⟩
abbrev cX8_level : ByteArray := prog_1_method_27_code
def yX8_level : MethodName := ⟨RX8, "level", "()I"⟩
abbrev cX8_taken : ByteArray := prog_1_method_28_code
def yX8_taken : MethodName := ⟨RX8, "taken", "(I)I"⟩
abbrev cX8_stretched : ByteArray := prog_1_method_29_code
def yX8_stretched : MethodName := ⟨RX8, "stretched", "()I"⟩
abbrev cX8_compressed : ByteArray := prog_1_method_30_code
def yX8_compressed : MethodName := ⟨RX8, "compressed", "()I"⟩
abbrev cX8_late : ByteArray := prog_1_method_31_code
def yX8_late : MethodName := ⟨RX8, "late", "()I"⟩
abbrev cX8_duplicates : ByteArray := prog_1_method_32_code
def yX8_duplicates : MethodName := ⟨RX8, "duplicates", "()I"⟩
abbrev cX8_loss : ByteArray := prog_1_method_33_code
def yX8_loss : MethodName := ⟨RX8, "loss", "(Z)I"⟩
abbrev cX8_longestGap : ByteArray := prog_1_method_34_code
def yX8_longestGap : MethodName := ⟨RX8, "longestGap", "()I"⟩
abbrev cX8_ticksToGap : ByteArray := prog_1_method_35_code
def yX8_ticksToGap : MethodName := ⟨RX8, "ticksToGap", "()I"⟩
abbrev cX8_gapsIn : ByteArray := prog_1_method_36_code
def yX8_gapsIn : MethodName := ⟨RX8, "gapsIn", "(I)I"⟩
abbrev cX8_ticksToFrame : ByteArray := prog_1_method_37_code
def yX8_ticksToFrame : MethodName := ⟨RX8, "ticksToFrame", "(I)I"⟩
abbrev cX8_append : ByteArray := prog_1_method_38_code
def yX8_append : MethodName := ⟨RX8, "append", "(I)I"⟩
abbrev cX8_clearText : ByteArray := prog_1_method_39_code
def yX8_clearText : MethodName := ⟨RX8, "clearText", "()I"⟩
abbrev cX8_faultPosition : ByteArray := prog_1_method_40_code
def yX8_faultPosition : MethodName := ⟨RX8, "faultPosition", "()I"⟩
abbrev cX8_schedule : ByteArray := prog_1_method_41_code
def yX8_schedule : MethodName := ⟨RX8, "schedule", "()I"⟩
abbrev cX8_scheduled : ByteArray := prog_1_method_42_code
def yX8_scheduled : MethodName := ⟨RX8, "scheduled", "()I"⟩
abbrev cX8_keep : ByteArray := prog_1_method_43_code
def yX8_keep : MethodName := ⟨RX8, "keep", "(I)I"⟩
abbrev cX8_restore : ByteArray := prog_1_method_44_code
def yX8_restore : MethodName := ⟨RX8, "restore", "(I)I"⟩
abbrev cX8_checksum : ByteArray := prog_1_method_45_code
def yX8_checksum : MethodName := ⟨RX8, "checksum", "()J"⟩
abbrev cX8_isFrame : ByteArray := prog_1_method_46_code
def yX8_isFrame : MethodName := ⟨RX8, "isFrame", "(I)Z"⟩
abbrev cX8_canArrive : ByteArray := prog_1_method_47_code
def yX8_canArrive : MethodName := ⟨RX8, "canArrive", "(I)Z"⟩
abbrev cX8_commonDivisor : ByteArray := prog_1_method_48_code
def yX8_commonDivisor : MethodName := ⟨RX8, "commonDivisor", "(II)I"⟩
def RX9 : String := "PlayoutBufferModel"
def TX9 : u_T := fun k => match k with
  | 0 => ("PlayoutBufferModel", "v", "[I", true)
  | 1 => ("PlayoutBufferModel", "spare", "[I", true)
  | 2 => ("PlayoutBufferModel", "kept", "[I", true)
  | 3 => ("PlayoutBufferModel", "isKept", "[Z", true)
  | 4 => ("PlayoutBufferModel", "text", "[I", true)
  | 5 => ("PlayoutBufferModel", "length", "I", false)
  | 6 => ("PlayoutBufferModel", "sorted", "[I", true)
  | 7 => ("PlayoutBufferModel", "x", "[I", true)
  | 8 => ("PlayoutBufferModel", "told", "[I", true)
  | 9 => ("PlayoutBufferModel", "tellings", "I", false)
  | _ => ("PlayoutBufferModel", "place", "I", false)
def tyX9 : Nat → FieldType := fun k => match k with
  | 0 => .array .int
  | 1 => .array .int
  | 2 => .array .int
  | 3 => .array .boolean
  | 4 => .array .int
  | 5 => .int
  | 6 => .array .int
  | 7 => .array .int
  | 8 => .array .int
  | 9 => .int
  | _ => .int
abbrev wsX90 : List Cond := u_ws RX9 TX9 11
theorem nmX9 : ∀ a, a < 11 → ∀ b, b < 11 → a ≠ b → (TX9 a).2.1 ≠ (TX9 b).2.1 := by decide +kernel
theorem tyX9_ok : ∀ k, k < 11 → parseFieldDescriptor (TX9 k).2.2.1 = some (tyX9 k) := by decide +kernel
abbrev cX9_init : ByteArray := prog_11_method_1_code
def yX9_init : MethodName := ⟨RX9, "<init>", "()V"⟩
abbrev cX9_in : ByteArray := prog_11_method_3_code
def yX9_in : MethodName := ⟨RX9, "in", "(III)Z"⟩
abbrev cX9_size : ByteArray := prog_11_method_4_code
def yX9_size : MethodName := ⟨RX9, "size", "(I)I"⟩
abbrev cX9_put : ByteArray := prog_11_method_5_code
def yX9_put : MethodName := ⟨RX9, "put", "(II)I"⟩
abbrev cX9_isBegun : ByteArray := prog_11_method_6_code
def yX9_isBegun : MethodName := ⟨RX9, "isBegun", "()Z"⟩
abbrev cX9_setFrame : ByteArray := prog_11_method_7_code
def yX9_setFrame : MethodName := ⟨RX9, "setFrame", "(I)I"⟩
abbrev cX9_setWave : ByteArray := prog_11_method_8_code
def yX9_setWave : MethodName := ⟨RX9, "setWave", "(II)I"⟩
abbrev cX9_setBlock : ByteArray := prog_11_method_9_code
def yX9_setBlock : MethodName := ⟨RX9, "setBlock", "(II)I"⟩
abbrev cX9_setInitialDelay : ByteArray := prog_11_method_10_code
def yX9_setInitialDelay : MethodName := ⟨RX9, "setInitialDelay", "(I)I"⟩
abbrev cX9_setQuantile : ByteArray := prog_11_method_11_code
def yX9_setQuantile : MethodName := ⟨RX9, "setQuantile", "(I)I"⟩
abbrev cX9_setMargin : ByteArray := prog_11_method_12_code
def yX9_setMargin : MethodName := ⟨RX9, "setMargin", "(I)I"⟩
abbrev cX9_setAdapting : ByteArray := prog_11_method_13_code
def yX9_setAdapting : MethodName := ⟨RX9, "setAdapting", "(Z)I"⟩
abbrev cX9_isFrame : ByteArray := prog_11_method_14_code
def yX9_isFrame : MethodName := ⟨RX9, "isFrame", "(I)Z"⟩
abbrev cX9_area : ByteArray := prog_11_method_15_code
def yX9_area : MethodName := ⟨RX9, "area", "()I"⟩
abbrev cX9_isPacket : ByteArray := prog_11_method_16_code
def yX9_isPacket : MethodName := ⟨RX9, "isPacket", "(ZII)Z"⟩
abbrev cX9_packet : ByteArray := prog_11_method_17_code
def yX9_packet : MethodName := ⟨RX9, "packet", "(ZII)I"⟩
abbrev cX9_covers : ByteArray := prog_11_method_18_code
def yX9_covers : MethodName := ⟨RX9, "covers", "(Z)I"⟩
abbrev cX9_covered : ByteArray := prog_11_method_19_code
def yX9_covered : MethodName := ⟨RX9, "covered", "(ZIII)I"⟩
abbrev cX9_isKnown : ByteArray := prog_11_method_20_code
def yX9_isKnown : MethodName := ⟨RX9, "isKnown", "(I)Z"⟩
abbrev cX9_missingOf : ByteArray := prog_11_method_21_code
def yX9_missingOf : MethodName := ⟨RX9, "missingOf", "(ZII)I"⟩
abbrev cX9_restoresBy : ByteArray := prog_11_method_22_code
def yX9_restoresBy : MethodName := ⟨RX9, "restoresBy", "(ZII)I"⟩
abbrev cX9_restores : ByteArray := prog_11_method_23_code
def yX9_restores : MethodName := ⟨RX9, "restores", "(IZ)I"⟩
abbrev cX9_sampleOf : ByteArray := prog_11_method_24_code
def yX9_sampleOf : MethodName := ⟨RX9, "sampleOf", "(II)I"⟩
abbrev cX9_begins : ByteArray := prog_11_method_25_code
def yX9_begins : MethodName := ⟨RX9, "begins", "()V"⟩
abbrev cX9_sees : ByteArray := prog_11_method_26_code
def yX9_sees : MethodName := ⟨RX9, "sees", "(I)V"⟩
abbrev cX9_arrives : ByteArray := prog_11_method_27_code
def yX9_arrives : MethodName := ⟨RX9, "arrives", "(I)I"⟩
abbrev cX9_arrivesParity : ByteArray := prog_11_method_28_code
def yX9_arrivesParity : MethodName := ⟨RX9, "arrivesParity", "(ZII)I"⟩
abbrev cX9_arrive : ByteArray := prog_11_method_29_code
def yX9_arrive : MethodName := ⟨RX9, "arrive", "(I)I"⟩
abbrev cX9_arriveParity : ByteArray := prog_11_method_30_code
def yX9_arriveParity : MethodName := ⟨RX9, "arriveParity", "(ZII)I"⟩
abbrev cX9_arrivesBySchedule : ByteArray := prog_11_method_31_code
def yX9_arrivesBySchedule : MethodName := ⟨RX9, "arrivesBySchedule", "()V"⟩
abbrev cX9_sorts : ByteArray := prog_11_method_32_code
def yX9_sorts : MethodName := ⟨RX9, "sorts", "()V"⟩
abbrev cX9_targetNow : ByteArray := prog_11_method_33_code
def yX9_targetNow : MethodName := ⟨RX9, "targetNow", "()I"⟩
abbrev cX9_levelFrom : ByteArray := prog_11_method_34_code
def yX9_levelFrom : MethodName := ⟨RX9, "levelFrom", "(I)I"⟩
abbrev cX9_mixed : ByteArray := prog_11_method_35_code
def yX9_mixed : MethodName := ⟨RX9, "mixed", "(IIII)I"⟩
abbrev cX9_gives : ByteArray := prog_11_method_36_code
def yX9_gives : MethodName := ⟨RX9, "gives", "(I)V"⟩
abbrev cX9_lagOfFrame : ByteArray := prog_11_method_37_code
def yX9_lagOfFrame : MethodName := ⟨RX9, "lagOfFrame", "()I"⟩
abbrev cX9_fits : ByteArray := prog_11_method_38_code
def yX9_fits : MethodName := ⟨RX9, "fits", "(I)V"⟩
abbrev cX9_old : ByteArray := prog_11_method_39_code
def yX9_old : MethodName := ⟨RX9, "old", "(I)I"⟩
abbrev cX9_lagOfHistory : ByteArray := prog_11_method_40_code
def yX9_lagOfHistory : MethodName := ⟨RX9, "lagOfHistory", "()I"⟩
abbrev cX9_conceals : ByteArray := prog_11_method_41_code
def yX9_conceals : MethodName := ⟨RX9, "conceals", "()V"⟩
abbrev cX9_takes : ByteArray := prog_11_method_42_code
def yX9_takes : MethodName := ⟨RX9, "takes", "()V"⟩
abbrev cX9_tick : ByteArray := prog_11_method_43_code
def yX9_tick : MethodName := ⟨RX9, "tick", "()I"⟩
abbrev cX9_advance : ByteArray := prog_11_method_44_code
def yX9_advance : MethodName := ⟨RX9, "advance", "(I)I"⟩
abbrev cX9_time : ByteArray := prog_11_method_45_code
def yX9_time : MethodName := ⟨RX9, "time", "()I"⟩
abbrev cX9_start : ByteArray := prog_11_method_46_code
def yX9_start : MethodName := ⟨RX9, "start", "()I"⟩
abbrev cX9_output : ByteArray := prog_11_method_47_code
def yX9_output : MethodName := ⟨RX9, "output", "(I)I"⟩
abbrev cX9_outputs : ByteArray := prog_11_method_48_code
def yX9_outputs : MethodName := ⟨RX9, "outputs", "()I"⟩
abbrev cX9_left : ByteArray := prog_11_method_49_code
def yX9_left : MethodName := ⟨RX9, "left", "()I"⟩
abbrev cX9_next : ByteArray := prog_11_method_50_code
def yX9_next : MethodName := ⟨RX9, "next", "()I"⟩
abbrev cX9_kind : ByteArray := prog_11_method_51_code
def yX9_kind : MethodName := ⟨RX9, "kind", "(I)I"⟩
abbrev cX9_state : ByteArray := prog_11_method_52_code
def yX9_state : MethodName := ⟨RX9, "state", "(I)I"⟩
abbrev cX9_sample : ByteArray := prog_11_method_53_code
def yX9_sample : MethodName := ⟨RX9, "sample", "(II)I"⟩
abbrev cX9_missing : ByteArray := prog_11_method_54_code
def yX9_missing : MethodName := ⟨RX9, "missing", "(ZII)I"⟩
abbrev cX9_unrestorable : ByteArray := prog_11_method_55_code
def yX9_unrestorable : MethodName := ⟨RX9, "unrestorable", "(I)I"⟩
abbrev cX9_paritySample : ByteArray := prog_11_method_56_code
def yX9_paritySample : MethodName := ⟨RX9, "paritySample", "(ZIII)I"⟩
abbrev cX9_transits : ByteArray := prog_11_method_57_code
def yX9_transits : MethodName := ⟨RX9, "transits", "()I"⟩
abbrev cX9_transit : ByteArray := prog_11_method_58_code
def yX9_transit : MethodName := ⟨RX9, "transit", "(I)I"⟩
abbrev cX9_target : ByteArray := prog_11_method_59_code
def yX9_target : MethodName := ⟨RX9, "target", "()I"⟩
abbrev cX9_level : ByteArray := prog_11_method_60_code
def yX9_level : MethodName := ⟨RX9, "level", "()I"⟩
abbrev cX9_taken : ByteArray := prog_11_method_61_code
def yX9_taken : MethodName := ⟨RX9, "taken", "(I)I"⟩
abbrev cX9_stretched : ByteArray := prog_11_method_62_code
def yX9_stretched : MethodName := ⟨RX9, "stretched", "()I"⟩
abbrev cX9_compressed : ByteArray := prog_11_method_63_code
def yX9_compressed : MethodName := ⟨RX9, "compressed", "()I"⟩
abbrev cX9_late : ByteArray := prog_11_method_64_code
def yX9_late : MethodName := ⟨RX9, "late", "()I"⟩
abbrev cX9_duplicates : ByteArray := prog_11_method_65_code
def yX9_duplicates : MethodName := ⟨RX9, "duplicates", "()I"⟩
abbrev cX9_loss : ByteArray := prog_11_method_66_code
def yX9_loss : MethodName := ⟨RX9, "loss", "(Z)I"⟩
abbrev cX9_longestGap : ByteArray := prog_11_method_67_code
def yX9_longestGap : MethodName := ⟨RX9, "longestGap", "()I"⟩
abbrev cX9_keeps : ByteArray := prog_11_method_68_code
def yX9_keeps : MethodName := ⟨RX9, "keeps", "()V"⟩
abbrev cX9_brings : ByteArray := prog_11_method_69_code
def yX9_brings : MethodName := ⟨RX9, "brings", "()V"⟩
abbrev cX9_ticksToGap : ByteArray := prog_11_method_70_code
def yX9_ticksToGap : MethodName := ⟨RX9, "ticksToGap", "()I"⟩
abbrev cX9_gapsIn : ByteArray := prog_11_method_71_code
def yX9_gapsIn : MethodName := ⟨RX9, "gapsIn", "(I)I"⟩
abbrev cX9_ticksToFrame : ByteArray := prog_11_method_72_code
def yX9_ticksToFrame : MethodName := ⟨RX9, "ticksToFrame", "(I)I"⟩
abbrev cX9_append : ByteArray := prog_11_method_73_code
def yX9_append : MethodName := ⟨RX9, "append", "(I)I"⟩
abbrev cX9_clearText : ByteArray := prog_11_method_74_code
def yX9_clearText : MethodName := ⟨RX9, "clearText", "()I"⟩
abbrev cX9_here : ByteArray := prog_11_method_75_code
def yX9_here : MethodName := ⟨RX9, "here", "()I"⟩
abbrev cX9_takes_ : ByteArray := prog_11_method_76_code
def yX9_takes_ : MethodName := ⟨RX9, "takes", "(I)Z"⟩
abbrev cX9_number : ByteArray := prog_11_method_77_code
def yX9_number : MethodName := ⟨RX9, "number", "()I"⟩
abbrev cX9_isEntry : ByteArray := prog_11_method_78_code
def yX9_isEntry : MethodName := ⟨RX9, "isEntry", "()Z"⟩
abbrev cX9_isText : ByteArray := prog_11_method_79_code
def yX9_isText : MethodName := ⟨RX9, "isText", "()Z"⟩
abbrev cX9_faultPosition : ByteArray := prog_11_method_80_code
def yX9_faultPosition : MethodName := ⟨RX9, "faultPosition", "()I"⟩
abbrev cX9_isArrival : ByteArray := prog_11_method_81_code
def yX9_isArrival : MethodName := ⟨RX9, "isArrival", "(I)Z"⟩
abbrev cX9_schedule : ByteArray := prog_11_method_82_code
def yX9_schedule : MethodName := ⟨RX9, "schedule", "()I"⟩
abbrev cX9_scheduled : ByteArray := prog_11_method_83_code
def yX9_scheduled : MethodName := ⟨RX9, "scheduled", "()I"⟩
abbrev cX9_keep : ByteArray := prog_11_method_84_code
def yX9_keep : MethodName := ⟨RX9, "keep", "(I)I"⟩
abbrev cX9_restore : ByteArray := prog_11_method_85_code
def yX9_restore : MethodName := ⟨RX9, "restore", "(I)I"⟩
abbrev cX9_more : ByteArray := prog_11_method_86_code
def yX9_more : MethodName := ⟨RX9, "more", "(JI)J"⟩
abbrev cX9_checksum : ByteArray := prog_11_method_87_code
def yX9_checksum : MethodName := ⟨RX9, "checksum", "()J"⟩
def RJ13 : String := "java/lang/Long"
def TJ13 : u_T := fun k => match k with
  | _ => ("", "", "", false)
def tyJ13 : Nat → FieldType := fun k => match k with
  | _ => .int
abbrev cJ13_bitCount_95d88 : ByteArray := prog_12_method_50_code
def yJ13_bitCount_95d88 : MethodName := ⟨RJ13, "bitCount", "(J)I"⟩
def RJ9 : String := "java/lang/Math"
def TJ9 : u_T := fun k => match k with
  | _ => ("", "", "", false)
def tyJ9 : Nat → FieldType := fun k => match k with
  | _ => .int
abbrev cJ9_abs_0f7a4 : ByteArray := prog_13_method_59_code
def yJ9_abs_0f7a4 : MethodName := ⟨RJ9, "abs", "(I)I"⟩
abbrev cJ9_max_7cf53 : ByteArray := prog_13_method_65_code
def yJ9_max_7cf53 : MethodName := ⟨RJ9, "max", "(II)I"⟩
abbrev cJ9_min_7cf53 : ByteArray := prog_13_method_69_code
def yJ9_min_7cf53 : MethodName := ⟨RJ9, "min", "(II)I"⟩
def RJ10 : String := "java/lang/System"
def TJ10 : u_T := fun k => match k with
  | _ => ("", "", "", false)
def tyJ10 : Nat → FieldType := fun k => match k with
  | _ => .int
def RL : String := "PlayoutBufferLaw"
abbrev cL_law : ByteArray := code
def yL_law : MethodName := ⟨RL, "law", "([I)Z"⟩
abbrev vwCl : List vw_C := [(RX0, TX0, 8), (RX1, TX1, 5), (RX2, TX2, 9), (RX3, TX3, 3), (RX4, TX4, 8), (RX5, TX5, 9), (RX6, TX6, 9), (RX7, TX7, 4), (RX8, TX8, 5), (RX9, TX9, 11)]
end
section
theorem dJ13_bitCount_95d88_0 : decode cJ13_bitCount_95d88 0 = .ok (.lload_n 0, 1) := by decide +kernel
theorem dJ13_bitCount_95d88_1 : decode cJ13_bitCount_95d88 1 = .ok (.lload_n 0, 1) := by decide +kernel
theorem dJ13_bitCount_95d88_2 : decode cJ13_bitCount_95d88 2 = .ok (.iconst 1, 1) := by decide +kernel
theorem dJ13_bitCount_95d88_3 : decode cJ13_bitCount_95d88 3 = .ok (.lushr, 1) := by decide +kernel
theorem dJ13_bitCount_95d88_4 : decode cJ13_bitCount_95d88 4 = .ok (.ldc2_w 314, 3) := by decide +kernel
theorem dJ13_bitCount_95d88_7 : decode cJ13_bitCount_95d88 7 = .ok (.land, 1) := by decide +kernel
theorem dJ13_bitCount_95d88_8 : decode cJ13_bitCount_95d88 8 = .ok (.lsub, 1) := by decide +kernel
theorem dJ13_bitCount_95d88_9 : decode cJ13_bitCount_95d88 9 = .ok (.lstore_n 0, 1) := by decide +kernel
theorem dJ13_bitCount_95d88_10 : decode cJ13_bitCount_95d88 10 = .ok (.lload_n 0, 1) := by decide +kernel
theorem dJ13_bitCount_95d88_11 : decode cJ13_bitCount_95d88 11 = .ok (.ldc2_w 316, 3) := by decide +kernel
theorem dJ13_bitCount_95d88_14 : decode cJ13_bitCount_95d88 14 = .ok (.land, 1) := by decide +kernel
theorem dJ13_bitCount_95d88_15 : decode cJ13_bitCount_95d88 15 = .ok (.lload_n 0, 1) := by decide +kernel
theorem dJ13_bitCount_95d88_16 : decode cJ13_bitCount_95d88 16 = .ok (.iconst 2, 1) := by decide +kernel
theorem dJ13_bitCount_95d88_17 : decode cJ13_bitCount_95d88 17 = .ok (.lushr, 1) := by decide +kernel
theorem dJ13_bitCount_95d88_18 : decode cJ13_bitCount_95d88 18 = .ok (.ldc2_w 316, 3) := by decide +kernel
theorem dJ13_bitCount_95d88_21 : decode cJ13_bitCount_95d88 21 = .ok (.land, 1) := by decide +kernel
theorem dJ13_bitCount_95d88_22 : decode cJ13_bitCount_95d88 22 = .ok (.ladd, 1) := by decide +kernel
theorem dJ13_bitCount_95d88_23 : decode cJ13_bitCount_95d88 23 = .ok (.lstore_n 0, 1) := by decide +kernel
theorem dJ13_bitCount_95d88_24 : decode cJ13_bitCount_95d88 24 = .ok (.lload_n 0, 1) := by decide +kernel
theorem dJ13_bitCount_95d88_25 : decode cJ13_bitCount_95d88 25 = .ok (.lload_n 0, 1) := by decide +kernel
theorem dJ13_bitCount_95d88_26 : decode cJ13_bitCount_95d88 26 = .ok (.iconst 4, 1) := by decide +kernel
theorem dJ13_bitCount_95d88_27 : decode cJ13_bitCount_95d88 27 = .ok (.lushr, 1) := by decide +kernel
theorem dJ13_bitCount_95d88_28 : decode cJ13_bitCount_95d88 28 = .ok (.ladd, 1) := by decide +kernel
theorem dJ13_bitCount_95d88_29 : decode cJ13_bitCount_95d88 29 = .ok (.ldc2_w 318, 3) := by decide +kernel
theorem dJ13_bitCount_95d88_32 : decode cJ13_bitCount_95d88 32 = .ok (.land, 1) := by decide +kernel
theorem dJ13_bitCount_95d88_33 : decode cJ13_bitCount_95d88 33 = .ok (.lstore_n 0, 1) := by decide +kernel
theorem dJ13_bitCount_95d88_34 : decode cJ13_bitCount_95d88 34 = .ok (.lload_n 0, 1) := by decide +kernel
theorem dJ13_bitCount_95d88_35 : decode cJ13_bitCount_95d88 35 = .ok (.lload_n 0, 1) := by decide +kernel
theorem dJ13_bitCount_95d88_36 : decode cJ13_bitCount_95d88 36 = .ok (.bipush 8, 2) := by decide +kernel
theorem dJ13_bitCount_95d88_38 : decode cJ13_bitCount_95d88 38 = .ok (.lushr, 1) := by decide +kernel
theorem dJ13_bitCount_95d88_39 : decode cJ13_bitCount_95d88 39 = .ok (.ladd, 1) := by decide +kernel
theorem dJ13_bitCount_95d88_40 : decode cJ13_bitCount_95d88 40 = .ok (.lstore_n 0, 1) := by decide +kernel
theorem dJ13_bitCount_95d88_41 : decode cJ13_bitCount_95d88 41 = .ok (.lload_n 0, 1) := by decide +kernel
theorem dJ13_bitCount_95d88_42 : decode cJ13_bitCount_95d88 42 = .ok (.lload_n 0, 1) := by decide +kernel
theorem dJ13_bitCount_95d88_43 : decode cJ13_bitCount_95d88 43 = .ok (.bipush 16, 2) := by decide +kernel
theorem dJ13_bitCount_95d88_45 : decode cJ13_bitCount_95d88 45 = .ok (.lushr, 1) := by decide +kernel
theorem dJ13_bitCount_95d88_46 : decode cJ13_bitCount_95d88 46 = .ok (.ladd, 1) := by decide +kernel
theorem dJ13_bitCount_95d88_47 : decode cJ13_bitCount_95d88 47 = .ok (.lstore_n 0, 1) := by decide +kernel
theorem dJ13_bitCount_95d88_48 : decode cJ13_bitCount_95d88 48 = .ok (.lload_n 0, 1) := by decide +kernel
theorem dJ13_bitCount_95d88_49 : decode cJ13_bitCount_95d88 49 = .ok (.lload_n 0, 1) := by decide +kernel
theorem dJ13_bitCount_95d88_50 : decode cJ13_bitCount_95d88 50 = .ok (.bipush 32, 2) := by decide +kernel
theorem dJ13_bitCount_95d88_52 : decode cJ13_bitCount_95d88 52 = .ok (.lushr, 1) := by decide +kernel
theorem dJ13_bitCount_95d88_53 : decode cJ13_bitCount_95d88 53 = .ok (.ladd, 1) := by decide +kernel
theorem dJ13_bitCount_95d88_54 : decode cJ13_bitCount_95d88 54 = .ok (.lstore_n 0, 1) := by decide +kernel
theorem dJ13_bitCount_95d88_55 : decode cJ13_bitCount_95d88 55 = .ok (.lload_n 0, 1) := by decide +kernel
theorem dJ13_bitCount_95d88_56 : decode cJ13_bitCount_95d88 56 = .ok (.l2i, 1) := by decide +kernel
theorem dJ13_bitCount_95d88_57 : decode cJ13_bitCount_95d88 57 = .ok (.bipush 127, 2) := by decide +kernel
theorem dJ13_bitCount_95d88_59 : decode cJ13_bitCount_95d88 59 = .ok (.iand, 1) := by decide +kernel
theorem dJ13_bitCount_95d88_60 : decode cJ13_bitCount_95d88 60 = .ok (.ireturn, 1) := by decide +kernel
theorem dJ9_abs_0f7a4_0 : decode cJ9_abs_0f7a4 0 = .ok (.iload_n 0, 1) := by decide +kernel
theorem dJ9_abs_0f7a4_1 : decode cJ9_abs_0f7a4 1 = .ok (.ifCond .ge 8, 3) := by decide +kernel
theorem dJ9_abs_0f7a4_4 : decode cJ9_abs_0f7a4 4 = .ok (.iload_n 0, 1) := by decide +kernel
theorem dJ9_abs_0f7a4_5 : decode cJ9_abs_0f7a4 5 = .ok (.ineg, 1) := by decide +kernel
theorem dJ9_abs_0f7a4_6 : decode cJ9_abs_0f7a4 6 = .ok (.goto 4, 3) := by decide +kernel
theorem dJ9_abs_0f7a4_9 : decode cJ9_abs_0f7a4 9 = .ok (.iload_n 0, 1) := by decide +kernel
theorem dJ9_abs_0f7a4_10 : decode cJ9_abs_0f7a4 10 = .ok (.ireturn, 1) := by decide +kernel
theorem dJ9_max_7cf53_0 : decode cJ9_max_7cf53 0 = .ok (.iload_n 0, 1) := by decide +kernel
theorem dJ9_max_7cf53_1 : decode cJ9_max_7cf53 1 = .ok (.iload_n 1, 1) := by decide +kernel
theorem dJ9_max_7cf53_2 : decode cJ9_max_7cf53 2 = .ok (.if_icmp .lt 7, 3) := by decide +kernel
theorem dJ9_max_7cf53_5 : decode cJ9_max_7cf53 5 = .ok (.iload_n 0, 1) := by decide +kernel
theorem dJ9_max_7cf53_6 : decode cJ9_max_7cf53 6 = .ok (.goto 4, 3) := by decide +kernel
theorem dJ9_max_7cf53_9 : decode cJ9_max_7cf53 9 = .ok (.iload_n 1, 1) := by decide +kernel
theorem dJ9_max_7cf53_10 : decode cJ9_max_7cf53 10 = .ok (.ireturn, 1) := by decide +kernel
theorem dJ9_min_7cf53_0 : decode cJ9_min_7cf53 0 = .ok (.iload_n 0, 1) := by decide +kernel
theorem dJ9_min_7cf53_1 : decode cJ9_min_7cf53 1 = .ok (.iload_n 1, 1) := by decide +kernel
theorem dJ9_min_7cf53_2 : decode cJ9_min_7cf53 2 = .ok (.if_icmp .gt 7, 3) := by decide +kernel
theorem dJ9_min_7cf53_5 : decode cJ9_min_7cf53 5 = .ok (.iload_n 0, 1) := by decide +kernel
theorem dJ9_min_7cf53_6 : decode cJ9_min_7cf53 6 = .ok (.goto 4, 3) := by decide +kernel
theorem dJ9_min_7cf53_9 : decode cJ9_min_7cf53 9 = .ok (.iload_n 1, 1) := by decide +kernel
theorem dJ9_min_7cf53_10 : decode cJ9_min_7cf53 10 = .ok (.ireturn, 1) := by decide +kernel
theorem dX0_init_0 : decode cX0_init 0 = .ok (.aload_n 0, 1) := by decide +kernel
theorem dX0_init_1 : decode cX0_init 1 = .ok (.invokespecial 3, 3) := by decide +kernel
theorem dX0_init_4 : decode cX0_init 4 = .ok (.aload_n 0, 1) := by decide +kernel
theorem dX0_init_5 : decode cX0_init 5 = .ok (.bipush 120, 2) := by decide +kernel
theorem dX0_init_7 : decode cX0_init 7 = .ok (.newarray .int, 2) := by decide +kernel
theorem dX0_init_9 : decode cX0_init 9 = .ok (.putfield 11, 3) := by decide +kernel
theorem dX0_init_12 : decode cX0_init 12 = .ok (.return_, 1) := by decide +kernel
theorem dX0_write_0 : decode cX0_write 0 = .ok (.aload_n 0, 1) := by decide +kernel
theorem dX0_write_1 : decode cX0_write 1 = .ok (.getfield 15, 3) := by decide +kernel
theorem dX0_write_4 : decode cX0_write 4 = .ok (.bipush 120, 2) := by decide +kernel
theorem dX0_write_6 : decode cX0_write 6 = .ok (.if_icmp .ge 23, 3) := by decide +kernel
theorem dX0_write_9 : decode cX0_write 9 = .ok (.aload_n 0, 1) := by decide +kernel
theorem dX0_write_10 : decode cX0_write 10 = .ok (.getfield 11, 3) := by decide +kernel
theorem dX0_write_13 : decode cX0_write 13 = .ok (.aload_n 0, 1) := by decide +kernel
theorem dX0_write_14 : decode cX0_write 14 = .ok (.getfield 15, 3) := by decide +kernel
theorem dX0_write_17 : decode cX0_write 17 = .ok (.iload_n 1, 1) := by decide +kernel
theorem dX0_write_18 : decode cX0_write 18 = .ok (.iastore, 1) := by decide +kernel
theorem dX0_write_19 : decode cX0_write 19 = .ok (.aload_n 0, 1) := by decide +kernel
theorem dX0_write_20 : decode cX0_write 20 = .ok (.dup, 1) := by decide +kernel
theorem dX0_write_21 : decode cX0_write 21 = .ok (.getfield 15, 3) := by decide +kernel
theorem dX0_write_24 : decode cX0_write 24 = .ok (.iconst 1, 1) := by decide +kernel
theorem dX0_write_25 : decode cX0_write 25 = .ok (.iadd, 1) := by decide +kernel
theorem dX0_write_26 : decode cX0_write 26 = .ok (.putfield 15, 3) := by decide +kernel
theorem dX0_write_29 : decode cX0_write 29 = .ok (.return_, 1) := by decide +kernel
theorem dX0_readInto_0 : decode cX0_readInto 0 = .ok (.aload_n 1, 1) := by decide +kernel
theorem dX0_readInto_1 : decode cX0_readInto 1 = .ok (.iconst 0, 1) := by decide +kernel
theorem dX0_readInto_2 : decode cX0_readInto 2 = .ok (.putfield 19, 3) := by decide +kernel
theorem dX0_readInto_5 : decode cX0_readInto 5 = .ok (.aload_n 0, 1) := by decide +kernel
theorem dX0_readInto_6 : decode cX0_readInto 6 = .ok (.iconst 0, 1) := by decide +kernel
theorem dX0_readInto_7 : decode cX0_readInto 7 = .ok (.putfield 24, 3) := by decide +kernel
theorem dX0_readInto_10 : decode cX0_readInto 10 = .ok (.iconst 0, 1) := by decide +kernel
theorem dX0_readInto_11 : decode cX0_readInto 11 = .ok (.istore_n 2, 1) := by decide +kernel
theorem dX0_readInto_12 : decode cX0_readInto 12 = .ok (.iload_n 2, 1) := by decide +kernel
theorem dX0_readInto_13 : decode cX0_readInto 13 = .ok (.aload_n 0, 1) := by decide +kernel
theorem dX0_readInto_14 : decode cX0_readInto 14 = .ok (.getfield 15, 3) := by decide +kernel
theorem dX0_readInto_17 : decode cX0_readInto 17 = .ok (.if_icmp .ge 25, 3) := by decide +kernel
theorem dX0_readInto_20 : decode cX0_readInto 20 = .ok (.aload_n 0, 1) := by decide +kernel
theorem dX0_readInto_21 : decode cX0_readInto 21 = .ok (.aload_n 0, 1) := by decide +kernel
theorem dX0_readInto_22 : decode cX0_readInto 22 = .ok (.getfield 11, 3) := by decide +kernel
theorem dX0_readInto_25 : decode cX0_readInto 25 = .ok (.iload_n 2, 1) := by decide +kernel
theorem dX0_readInto_26 : decode cX0_readInto 26 = .ok (.iaload, 1) := by decide +kernel
theorem dX0_readInto_27 : decode cX0_readInto 27 = .ok (.aload_n 1, 1) := by decide +kernel
theorem dX0_readInto_28 : decode cX0_readInto 28 = .ok (.invokevirtual 27, 3) := by decide +kernel
theorem dX0_readInto_31 : decode cX0_readInto 31 = .ok (.ifCond .ne 5, 3) := by decide +kernel
theorem dX0_readInto_34 : decode cX0_readInto 34 = .ok (.iload_n 2, 1) := by decide +kernel
theorem dX0_readInto_35 : decode cX0_readInto 35 = .ok (.ireturn, 1) := by decide +kernel
theorem dX0_readInto_36 : decode cX0_readInto 36 = .ok (.iinc 2 1, 3) := by decide +kernel
theorem dX0_readInto_39 : decode cX0_readInto 39 = .ok (.goto (-27), 3) := by decide +kernel
theorem dX0_readInto_42 : decode cX0_readInto 42 = .ok (.aload_n 0, 1) := by decide +kernel
theorem dX0_readInto_43 : decode cX0_readInto 43 = .ok (.getfield 24, 3) := by decide +kernel
theorem dX0_readInto_46 : decode cX0_readInto 46 = .ok (.ifCond .ne 9, 3) := by decide +kernel
theorem dX0_readInto_49 : decode cX0_readInto 49 = .ok (.sipush (-1004), 3) := by decide +kernel
theorem dX0_readInto_52 : decode cX0_readInto 52 = .ok (.goto 7, 3) := by decide +kernel
theorem dX0_readInto_55 : decode cX0_readInto 55 = .ok (.aload_n 0, 1) := by decide +kernel
theorem dX0_readInto_56 : decode cX0_readInto 56 = .ok (.getfield 15, 3) := by decide +kernel
theorem dX0_readInto_59 : decode cX0_readInto 59 = .ok (.ireturn, 1) := by decide +kernel
theorem dX0_follows_0 : decode cX0_follows 0 = .ok (.aload_n 0, 1) := by decide +kernel
theorem dX0_follows_1 : decode cX0_follows 1 = .ok (.getfield 24, 3) := by decide +kernel
theorem dX0_follows_4 : decode cX0_follows 4 = .ok (.ifCond .ne 9, 3) := by decide +kernel
theorem dX0_follows_7 : decode cX0_follows 7 = .ok (.aload_n 0, 1) := by decide +kernel
theorem dX0_follows_8 : decode cX0_follows 8 = .ok (.iload_n 1, 1) := by decide +kernel
theorem dX0_follows_9 : decode cX0_follows 9 = .ok (.invokevirtual 31, 3) := by decide +kernel
theorem dX0_follows_12 : decode cX0_follows 12 = .ok (.ireturn, 1) := by decide +kernel
theorem dX0_follows_13 : decode cX0_follows 13 = .ok (.iload_n 1, 1) := by decide +kernel
theorem dX0_follows_14 : decode cX0_follows 14 = .ok (.bipush 48, 2) := by decide +kernel
theorem dX0_follows_16 : decode cX0_follows 16 = .ok (.if_icmp .lt 49, 3) := by decide +kernel
theorem dX0_follows_19 : decode cX0_follows 19 = .ok (.iload_n 1, 1) := by decide +kernel
theorem dX0_follows_20 : decode cX0_follows 20 = .ok (.bipush 57, 2) := by decide +kernel
theorem dX0_follows_22 : decode cX0_follows 22 = .ok (.if_icmp .gt 43, 3) := by decide +kernel
theorem dX0_follows_25 : decode cX0_follows 25 = .ok (.aload_n 0, 1) := by decide +kernel
theorem dX0_follows_26 : decode cX0_follows 26 = .ok (.bipush 10, 2) := by decide +kernel
theorem dX0_follows_28 : decode cX0_follows 28 = .ok (.aload_n 0, 1) := by decide +kernel
theorem dX0_follows_29 : decode cX0_follows 29 = .ok (.getfield 35, 3) := by decide +kernel
theorem dX0_follows_32 : decode cX0_follows 32 = .ok (.imul, 1) := by decide +kernel
theorem dX0_follows_33 : decode cX0_follows 33 = .ok (.iload_n 1, 1) := by decide +kernel
theorem dX0_follows_34 : decode cX0_follows 34 = .ok (.iadd, 1) := by decide +kernel
theorem dX0_follows_35 : decode cX0_follows 35 = .ok (.bipush 48, 2) := by decide +kernel
theorem dX0_follows_37 : decode cX0_follows 37 = .ok (.isub, 1) := by decide +kernel
theorem dX0_follows_38 : decode cX0_follows 38 = .ok (.putfield 35, 3) := by decide +kernel
theorem dX0_follows_41 : decode cX0_follows 41 = .ok (.aload_n 0, 1) := by decide +kernel
theorem dX0_follows_42 : decode cX0_follows 42 = .ok (.dup, 1) := by decide +kernel
theorem dX0_follows_43 : decode cX0_follows 43 = .ok (.getfield 38, 3) := by decide +kernel
theorem dX0_follows_46 : decode cX0_follows 46 = .ok (.iconst 1, 1) := by decide +kernel
theorem dX0_follows_47 : decode cX0_follows 47 = .ok (.iadd, 1) := by decide +kernel
theorem dX0_follows_48 : decode cX0_follows 48 = .ok (.putfield 38, 3) := by decide +kernel
theorem dX0_follows_51 : decode cX0_follows 51 = .ok (.aload_n 0, 1) := by decide +kernel
theorem dX0_follows_52 : decode cX0_follows 52 = .ok (.getfield 38, 3) := by decide +kernel
theorem dX0_follows_55 : decode cX0_follows 55 = .ok (.iconst 4, 1) := by decide +kernel
theorem dX0_follows_56 : decode cX0_follows 56 = .ok (.if_icmp .gt 7, 3) := by decide +kernel
theorem dX0_follows_59 : decode cX0_follows 59 = .ok (.iconst 1, 1) := by decide +kernel
theorem dX0_follows_60 : decode cX0_follows 60 = .ok (.goto 4, 3) := by decide +kernel
theorem dX0_follows_63 : decode cX0_follows 63 = .ok (.iconst 0, 1) := by decide +kernel
theorem dX0_follows_64 : decode cX0_follows 64 = .ok (.ireturn, 1) := by decide +kernel
theorem dX0_follows_65 : decode cX0_follows 65 = .ok (.aload_n 0, 1) := by decide +kernel
theorem dX0_follows_66 : decode cX0_follows 66 = .ok (.getfield 38, 3) := by decide +kernel
theorem dX0_follows_69 : decode cX0_follows 69 = .ok (.ifCond .eq 11, 3) := by decide +kernel
theorem dX0_follows_72 : decode cX0_follows 72 = .ok (.iload_n 1, 1) := by decide +kernel
theorem dX0_follows_73 : decode cX0_follows 73 = .ok (.aload_n 0, 1) := by decide +kernel
theorem dX0_follows_74 : decode cX0_follows 74 = .ok (.invokevirtual 41, 3) := by decide +kernel
theorem dX0_follows_77 : decode cX0_follows 77 = .ok (.if_icmp .eq 5, 3) := by decide +kernel
theorem dX0_follows_80 : decode cX0_follows 80 = .ok (.iconst 0, 1) := by decide +kernel
theorem dX0_follows_81 : decode cX0_follows 81 = .ok (.ireturn, 1) := by decide +kernel
theorem dX0_follows_82 : decode cX0_follows 82 = .ok (.aload_n 0, 1) := by decide +kernel
theorem dX0_follows_83 : decode cX0_follows 83 = .ok (.aload_n 2, 1) := by decide +kernel
theorem dX0_follows_84 : decode cX0_follows 84 = .ok (.invokevirtual 45, 3) := by decide +kernel
theorem dX0_follows_87 : decode cX0_follows 87 = .ok (.iconst 1, 1) := by decide +kernel
theorem dX0_follows_88 : decode cX0_follows 88 = .ok (.ireturn, 1) := by decide +kernel
theorem dX0_beginsEntry_0 : decode cX0_beginsEntry 0 = .ok (.iload_n 1, 1) := by decide +kernel
theorem dX0_beginsEntry_1 : decode cX0_beginsEntry 1 = .ok (.lookupswitch 71 #[(99, 59), (100, 35), (114, 47)], 35) := by decide +kernel
theorem dX0_beginsEntry_36 : decode cX0_beginsEntry 36 = .ok (.aload_n 0, 1) := by decide +kernel
theorem dX0_beginsEntry_37 : decode cX0_beginsEntry 37 = .ok (.iconst 0, 1) := by decide +kernel
theorem dX0_beginsEntry_38 : decode cX0_beginsEntry 38 = .ok (.putfield 49, 3) := by decide +kernel
theorem dX0_beginsEntry_41 : decode cX0_beginsEntry 41 = .ok (.aload_n 0, 1) := by decide +kernel
theorem dX0_beginsEntry_42 : decode cX0_beginsEntry 42 = .ok (.iconst 1, 1) := by decide +kernel
theorem dX0_beginsEntry_43 : decode cX0_beginsEntry 43 = .ok (.invokevirtual 52, 3) := by decide +kernel
theorem dX0_beginsEntry_46 : decode cX0_beginsEntry 46 = .ok (.iconst 1, 1) := by decide +kernel
theorem dX0_beginsEntry_47 : decode cX0_beginsEntry 47 = .ok (.ireturn, 1) := by decide +kernel
theorem dX0_beginsEntry_48 : decode cX0_beginsEntry 48 = .ok (.aload_n 0, 1) := by decide +kernel
theorem dX0_beginsEntry_49 : decode cX0_beginsEntry 49 = .ok (.iconst 1, 1) := by decide +kernel
theorem dX0_beginsEntry_50 : decode cX0_beginsEntry 50 = .ok (.putfield 49, 3) := by decide +kernel
theorem dX0_beginsEntry_53 : decode cX0_beginsEntry 53 = .ok (.aload_n 0, 1) := by decide +kernel
theorem dX0_beginsEntry_54 : decode cX0_beginsEntry 54 = .ok (.iconst 2, 1) := by decide +kernel
theorem dX0_beginsEntry_55 : decode cX0_beginsEntry 55 = .ok (.invokevirtual 52, 3) := by decide +kernel
theorem dX0_beginsEntry_58 : decode cX0_beginsEntry 58 = .ok (.iconst 1, 1) := by decide +kernel
theorem dX0_beginsEntry_59 : decode cX0_beginsEntry 59 = .ok (.ireturn, 1) := by decide +kernel
theorem dX0_beginsEntry_60 : decode cX0_beginsEntry 60 = .ok (.aload_n 0, 1) := by decide +kernel
theorem dX0_beginsEntry_61 : decode cX0_beginsEntry 61 = .ok (.iconst 2, 1) := by decide +kernel
theorem dX0_beginsEntry_62 : decode cX0_beginsEntry 62 = .ok (.putfield 49, 3) := by decide +kernel
theorem dX0_beginsEntry_65 : decode cX0_beginsEntry 65 = .ok (.aload_n 0, 1) := by decide +kernel
theorem dX0_beginsEntry_66 : decode cX0_beginsEntry 66 = .ok (.iconst 2, 1) := by decide +kernel
theorem dX0_beginsEntry_67 : decode cX0_beginsEntry 67 = .ok (.invokevirtual 52, 3) := by decide +kernel
theorem dX0_beginsEntry_70 : decode cX0_beginsEntry 70 = .ok (.iconst 1, 1) := by decide +kernel
theorem dX0_beginsEntry_71 : decode cX0_beginsEntry 71 = .ok (.ireturn, 1) := by decide +kernel
theorem dX0_beginsEntry_72 : decode cX0_beginsEntry 72 = .ok (.iconst 0, 1) := by decide +kernel
theorem dX0_beginsEntry_73 : decode cX0_beginsEntry 73 = .ok (.ireturn, 1) := by decide +kernel
theorem dX0_endOfNumber_0 : decode cX0_endOfNumber 0 = .ok (.aload_n 0, 1) := by decide +kernel
theorem dX0_endOfNumber_1 : decode cX0_endOfNumber 1 = .ok (.getfield 24, 3) := by decide +kernel
theorem dX0_endOfNumber_4 : decode cX0_endOfNumber 4 = .ok (.lookupswitch 34 #[(2, 28), (4, 31)], 28) := by decide +kernel
theorem dX0_endOfNumber_32 : decode cX0_endOfNumber 32 = .ok (.bipush 46, 2) := by decide +kernel
theorem dX0_endOfNumber_34 : decode cX0_endOfNumber 34 = .ok (.ireturn, 1) := by decide +kernel
theorem dX0_endOfNumber_35 : decode cX0_endOfNumber 35 = .ok (.bipush 59, 2) := by decide +kernel
theorem dX0_endOfNumber_37 : decode cX0_endOfNumber 37 = .ok (.ireturn, 1) := by decide +kernel
theorem dX0_endOfNumber_38 : decode cX0_endOfNumber 38 = .ok (.bipush 64, 2) := by decide +kernel
theorem dX0_endOfNumber_40 : decode cX0_endOfNumber 40 = .ok (.ireturn, 1) := by decide +kernel
theorem dX0_endNumber_0 : decode cX0_endNumber 0 = .ok (.aload_n 0, 1) := by decide +kernel
theorem dX0_endNumber_1 : decode cX0_endNumber 1 = .ok (.getfield 24, 3) := by decide +kernel
theorem dX0_endNumber_4 : decode cX0_endNumber 4 = .ok (.tableswitch 88 2 4 #[28, 44, 60], 28) := by decide +kernel
theorem dX0_endNumber_32 : decode cX0_endNumber 32 = .ok (.aload_n 0, 1) := by decide +kernel
theorem dX0_endNumber_33 : decode cX0_endNumber 33 = .ok (.aload_n 0, 1) := by decide +kernel
theorem dX0_endNumber_34 : decode cX0_endNumber 34 = .ok (.getfield 35, 3) := by decide +kernel
theorem dX0_endNumber_37 : decode cX0_endNumber 37 = .ok (.putfield 56, 3) := by decide +kernel
theorem dX0_endNumber_40 : decode cX0_endNumber 40 = .ok (.aload_n 0, 1) := by decide +kernel
theorem dX0_endNumber_41 : decode cX0_endNumber 41 = .ok (.iconst 3, 1) := by decide +kernel
theorem dX0_endNumber_42 : decode cX0_endNumber 42 = .ok (.invokevirtual 52, 3) := by decide +kernel
theorem dX0_endNumber_45 : decode cX0_endNumber 45 = .ok (.goto 60, 3) := by decide +kernel
theorem dX0_endNumber_48 : decode cX0_endNumber 48 = .ok (.aload_n 0, 1) := by decide +kernel
theorem dX0_endNumber_49 : decode cX0_endNumber 49 = .ok (.aload_n 0, 1) := by decide +kernel
theorem dX0_endNumber_50 : decode cX0_endNumber 50 = .ok (.getfield 35, 3) := by decide +kernel
theorem dX0_endNumber_53 : decode cX0_endNumber 53 = .ok (.putfield 59, 3) := by decide +kernel
theorem dX0_endNumber_56 : decode cX0_endNumber 56 = .ok (.aload_n 0, 1) := by decide +kernel
theorem dX0_endNumber_57 : decode cX0_endNumber 57 = .ok (.iconst 4, 1) := by decide +kernel
theorem dX0_endNumber_58 : decode cX0_endNumber 58 = .ok (.invokevirtual 52, 3) := by decide +kernel
theorem dX0_endNumber_61 : decode cX0_endNumber 61 = .ok (.goto 44, 3) := by decide +kernel
theorem dX0_endNumber_64 : decode cX0_endNumber 64 = .ok (.aload_n 1, 1) := by decide +kernel
theorem dX0_endNumber_65 : decode cX0_endNumber 65 = .ok (.aload_n 0, 1) := by decide +kernel
theorem dX0_endNumber_66 : decode cX0_endNumber 66 = .ok (.getfield 49, 3) := by decide +kernel
theorem dX0_endNumber_69 : decode cX0_endNumber 69 = .ok (.aload_n 0, 1) := by decide +kernel
theorem dX0_endNumber_70 : decode cX0_endNumber 70 = .ok (.getfield 56, 3) := by decide +kernel
theorem dX0_endNumber_73 : decode cX0_endNumber 73 = .ok (.aload_n 0, 1) := by decide +kernel
theorem dX0_endNumber_74 : decode cX0_endNumber 74 = .ok (.getfield 59, 3) := by decide +kernel
theorem dX0_endNumber_77 : decode cX0_endNumber 77 = .ok (.aload_n 0, 1) := by decide +kernel
theorem dX0_endNumber_78 : decode cX0_endNumber 78 = .ok (.getfield 35, 3) := by decide +kernel
theorem dX0_endNumber_81 : decode cX0_endNumber 81 = .ok (.invokevirtual 62, 3) := by decide +kernel
theorem dX0_endNumber_84 : decode cX0_endNumber 84 = .ok (.aload_n 0, 1) := by decide +kernel
theorem dX0_endNumber_85 : decode cX0_endNumber 85 = .ok (.iconst 0, 1) := by decide +kernel
theorem dX0_endNumber_86 : decode cX0_endNumber 86 = .ok (.invokevirtual 52, 3) := by decide +kernel
theorem dX0_endNumber_89 : decode cX0_endNumber 89 = .ok (.goto 16, 3) := by decide +kernel
theorem dX0_endNumber_92 : decode cX0_endNumber 92 = .ok (.aload_n 0, 1) := by decide +kernel
theorem dX0_endNumber_93 : decode cX0_endNumber 93 = .ok (.aload_n 0, 1) := by decide +kernel
theorem dX0_endNumber_94 : decode cX0_endNumber 94 = .ok (.getfield 35, 3) := by decide +kernel
theorem dX0_endNumber_97 : decode cX0_endNumber 97 = .ok (.putfield 56, 3) := by decide +kernel
theorem dX0_endNumber_100 : decode cX0_endNumber 100 = .ok (.aload_n 0, 1) := by decide +kernel
theorem dX0_endNumber_101 : decode cX0_endNumber 101 = .ok (.iconst 4, 1) := by decide +kernel
theorem dX0_endNumber_102 : decode cX0_endNumber 102 = .ok (.invokevirtual 52, 3) := by decide +kernel
theorem dX0_endNumber_105 : decode cX0_endNumber 105 = .ok (.return_, 1) := by decide +kernel
theorem dX0_expect_0 : decode cX0_expect 0 = .ok (.aload_n 0, 1) := by decide +kernel
theorem dX0_expect_1 : decode cX0_expect 1 = .ok (.iload_n 1, 1) := by decide +kernel
theorem dX0_expect_2 : decode cX0_expect 2 = .ok (.putfield 24, 3) := by decide +kernel
theorem dX0_expect_5 : decode cX0_expect 5 = .ok (.aload_n 0, 1) := by decide +kernel
theorem dX0_expect_6 : decode cX0_expect 6 = .ok (.iconst 0, 1) := by decide +kernel
theorem dX0_expect_7 : decode cX0_expect 7 = .ok (.putfield 38, 3) := by decide +kernel
theorem dX0_expect_10 : decode cX0_expect 10 = .ok (.aload_n 0, 1) := by decide +kernel
theorem dX0_expect_11 : decode cX0_expect 11 = .ok (.iconst 0, 1) := by decide +kernel
theorem dX0_expect_12 : decode cX0_expect 12 = .ok (.putfield 35, 3) := by decide +kernel
theorem dX0_expect_15 : decode cX0_expect 15 = .ok (.return_, 1) := by decide +kernel
theorem dX1_init_0 : decode cX1_init 0 = .ok (.aload_n 0, 1) := by decide +kernel
theorem dX1_init_1 : decode cX1_init 1 = .ok (.invokespecial 1, 3) := by decide +kernel
theorem dX1_init_4 : decode cX1_init 4 = .ok (.aload_n 0, 1) := by decide +kernel
theorem dX1_init_5 : decode cX1_init 5 = .ok (.bipush 24, 2) := by decide +kernel
theorem dX1_init_7 : decode cX1_init 7 = .ok (.newarray .int, 2) := by decide +kernel
theorem dX1_init_9 : decode cX1_init 9 = .ok (.putfield 9, 3) := by decide +kernel
theorem dX1_init_12 : decode cX1_init 12 = .ok (.aload_n 0, 1) := by decide +kernel
theorem dX1_init_13 : decode cX1_init 13 = .ok (.bipush 24, 2) := by decide +kernel
theorem dX1_init_15 : decode cX1_init 15 = .ok (.newarray .int, 2) := by decide +kernel
theorem dX1_init_17 : decode cX1_init 17 = .ok (.putfield 13, 3) := by decide +kernel
theorem dX1_init_20 : decode cX1_init 20 = .ok (.aload_n 0, 1) := by decide +kernel
theorem dX1_init_21 : decode cX1_init 21 = .ok (.bipush 24, 2) := by decide +kernel
theorem dX1_init_23 : decode cX1_init 23 = .ok (.newarray .int, 2) := by decide +kernel
theorem dX1_init_25 : decode cX1_init 25 = .ok (.putfield 16, 3) := by decide +kernel
theorem dX1_init_28 : decode cX1_init 28 = .ok (.aload_n 0, 1) := by decide +kernel
theorem dX1_init_29 : decode cX1_init 29 = .ok (.bipush 24, 2) := by decide +kernel
theorem dX1_init_31 : decode cX1_init 31 = .ok (.newarray .int, 2) := by decide +kernel
theorem dX1_init_33 : decode cX1_init 33 = .ok (.putfield 19, 3) := by decide +kernel
theorem dX1_init_36 : decode cX1_init 36 = .ok (.return_, 1) := by decide +kernel
theorem dX1_copyFrom_0 : decode cX1_copyFrom 0 = .ok (.aload_n 0, 1) := by decide +kernel
theorem dX1_copyFrom_1 : decode cX1_copyFrom 1 = .ok (.iconst 0, 1) := by decide +kernel
theorem dX1_copyFrom_2 : decode cX1_copyFrom 2 = .ok (.putfield 22, 3) := by decide +kernel
theorem dX1_copyFrom_5 : decode cX1_copyFrom 5 = .ok (.aload_n 0, 1) := by decide +kernel
theorem dX1_copyFrom_6 : decode cX1_copyFrom 6 = .ok (.aload_n 1, 1) := by decide +kernel
theorem dX1_copyFrom_7 : decode cX1_copyFrom 7 = .ok (.invokevirtual 26, 3) := by decide +kernel
theorem dX1_copyFrom_10 : decode cX1_copyFrom 10 = .ok (.return_, 1) := by decide +kernel
theorem dX1_addAll_0 : decode cX1_addAll 0 = .ok (.iconst 0, 1) := by decide +kernel
theorem dX1_addAll_1 : decode cX1_addAll 1 = .ok (.istore_n 2, 1) := by decide +kernel
theorem dX1_addAll_2 : decode cX1_addAll 2 = .ok (.iload_n 2, 1) := by decide +kernel
theorem dX1_addAll_3 : decode cX1_addAll 3 = .ok (.aload_n 1, 1) := by decide +kernel
theorem dX1_addAll_4 : decode cX1_addAll 4 = .ok (.getfield 22, 3) := by decide +kernel
theorem dX1_addAll_7 : decode cX1_addAll 7 = .ok (.if_icmp .ge 37, 3) := by decide +kernel
theorem dX1_addAll_10 : decode cX1_addAll 10 = .ok (.aload_n 0, 1) := by decide +kernel
theorem dX1_addAll_11 : decode cX1_addAll 11 = .ok (.aload_n 1, 1) := by decide +kernel
theorem dX1_addAll_12 : decode cX1_addAll 12 = .ok (.getfield 9, 3) := by decide +kernel
theorem dX1_addAll_15 : decode cX1_addAll 15 = .ok (.iload_n 2, 1) := by decide +kernel
theorem dX1_addAll_16 : decode cX1_addAll 16 = .ok (.iaload, 1) := by decide +kernel
theorem dX1_addAll_17 : decode cX1_addAll 17 = .ok (.aload_n 1, 1) := by decide +kernel
theorem dX1_addAll_18 : decode cX1_addAll 18 = .ok (.getfield 13, 3) := by decide +kernel
theorem dX1_addAll_21 : decode cX1_addAll 21 = .ok (.iload_n 2, 1) := by decide +kernel
theorem dX1_addAll_22 : decode cX1_addAll 22 = .ok (.iaload, 1) := by decide +kernel
theorem dX1_addAll_23 : decode cX1_addAll 23 = .ok (.aload_n 1, 1) := by decide +kernel
theorem dX1_addAll_24 : decode cX1_addAll 24 = .ok (.getfield 16, 3) := by decide +kernel
theorem dX1_addAll_27 : decode cX1_addAll 27 = .ok (.iload_n 2, 1) := by decide +kernel
theorem dX1_addAll_28 : decode cX1_addAll 28 = .ok (.iaload, 1) := by decide +kernel
theorem dX1_addAll_29 : decode cX1_addAll 29 = .ok (.aload_n 1, 1) := by decide +kernel
theorem dX1_addAll_30 : decode cX1_addAll 30 = .ok (.getfield 19, 3) := by decide +kernel
theorem dX1_addAll_33 : decode cX1_addAll 33 = .ok (.iload_n 2, 1) := by decide +kernel
theorem dX1_addAll_34 : decode cX1_addAll 34 = .ok (.iaload, 1) := by decide +kernel
theorem dX1_addAll_35 : decode cX1_addAll 35 = .ok (.invokevirtual 30, 3) := by decide +kernel
theorem dX1_addAll_38 : decode cX1_addAll 38 = .ok (.iinc 2 1, 3) := by decide +kernel
theorem dX1_addAll_41 : decode cX1_addAll 41 = .ok (.goto (-39), 3) := by decide +kernel
theorem dX1_addAll_44 : decode cX1_addAll 44 = .ok (.return_, 1) := by decide +kernel
theorem dX1_add_0 : decode cX1_add 0 = .ok (.aload_n 0, 1) := by decide +kernel
theorem dX1_add_1 : decode cX1_add 1 = .ok (.getfield 22, 3) := by decide +kernel
theorem dX1_add_4 : decode cX1_add 4 = .ok (.bipush 24, 2) := by decide +kernel
theorem dX1_add_6 : decode cX1_add 6 = .ok (.if_icmp .ge 54, 3) := by decide +kernel
theorem dX1_add_9 : decode cX1_add 9 = .ok (.aload_n 0, 1) := by decide +kernel
theorem dX1_add_10 : decode cX1_add 10 = .ok (.getfield 9, 3) := by decide +kernel
theorem dX1_add_13 : decode cX1_add 13 = .ok (.aload_n 0, 1) := by decide +kernel
theorem dX1_add_14 : decode cX1_add 14 = .ok (.getfield 22, 3) := by decide +kernel
theorem dX1_add_17 : decode cX1_add 17 = .ok (.iload_n 1, 1) := by decide +kernel
theorem dX1_add_18 : decode cX1_add 18 = .ok (.iastore, 1) := by decide +kernel
theorem dX1_add_19 : decode cX1_add 19 = .ok (.aload_n 0, 1) := by decide +kernel
theorem dX1_add_20 : decode cX1_add 20 = .ok (.getfield 13, 3) := by decide +kernel
theorem dX1_add_23 : decode cX1_add 23 = .ok (.aload_n 0, 1) := by decide +kernel
theorem dX1_add_24 : decode cX1_add 24 = .ok (.getfield 22, 3) := by decide +kernel
theorem dX1_add_27 : decode cX1_add 27 = .ok (.iload_n 2, 1) := by decide +kernel
theorem dX1_add_28 : decode cX1_add 28 = .ok (.iastore, 1) := by decide +kernel
theorem dX1_add_29 : decode cX1_add 29 = .ok (.aload_n 0, 1) := by decide +kernel
theorem dX1_add_30 : decode cX1_add 30 = .ok (.getfield 16, 3) := by decide +kernel
theorem dX1_add_33 : decode cX1_add 33 = .ok (.aload_n 0, 1) := by decide +kernel
theorem dX1_add_34 : decode cX1_add 34 = .ok (.getfield 22, 3) := by decide +kernel
theorem dX1_add_37 : decode cX1_add 37 = .ok (.iload_n 3, 1) := by decide +kernel
theorem dX1_add_38 : decode cX1_add 38 = .ok (.iastore, 1) := by decide +kernel
theorem dX1_add_39 : decode cX1_add 39 = .ok (.aload_n 0, 1) := by decide +kernel
theorem dX1_add_40 : decode cX1_add 40 = .ok (.getfield 19, 3) := by decide +kernel
theorem dX1_add_43 : decode cX1_add 43 = .ok (.aload_n 0, 1) := by decide +kernel
theorem dX1_add_44 : decode cX1_add 44 = .ok (.getfield 22, 3) := by decide +kernel
theorem dX1_add_47 : decode cX1_add 47 = .ok (.iload 4, 2) := by decide +kernel
theorem dX1_add_49 : decode cX1_add 49 = .ok (.iastore, 1) := by decide +kernel
theorem dX1_add_50 : decode cX1_add 50 = .ok (.aload_n 0, 1) := by decide +kernel
theorem dX1_add_51 : decode cX1_add 51 = .ok (.dup, 1) := by decide +kernel
theorem dX1_add_52 : decode cX1_add 52 = .ok (.getfield 22, 3) := by decide +kernel
theorem dX1_add_55 : decode cX1_add 55 = .ok (.iconst 1, 1) := by decide +kernel
theorem dX1_add_56 : decode cX1_add 56 = .ok (.iadd, 1) := by decide +kernel
theorem dX1_add_57 : decode cX1_add 57 = .ok (.putfield 22, 3) := by decide +kernel
theorem dX1_add_60 : decode cX1_add 60 = .ok (.return_, 1) := by decide +kernel
theorem dX1_removeAllAt_0 : decode cX1_removeAllAt 0 = .ok (.aload_n 0, 1) := by decide +kernel
theorem dX1_removeAllAt_1 : decode cX1_removeAllAt 1 = .ok (.getfield 22, 3) := by decide +kernel
theorem dX1_removeAllAt_4 : decode cX1_removeAllAt 4 = .ok (.istore_n 2, 1) := by decide +kernel
theorem dX1_removeAllAt_5 : decode cX1_removeAllAt 5 = .ok (.aload_n 0, 1) := by decide +kernel
theorem dX1_removeAllAt_6 : decode cX1_removeAllAt 6 = .ok (.iconst 0, 1) := by decide +kernel
theorem dX1_removeAllAt_7 : decode cX1_removeAllAt 7 = .ok (.putfield 22, 3) := by decide +kernel
theorem dX1_removeAllAt_10 : decode cX1_removeAllAt 10 = .ok (.iconst 0, 1) := by decide +kernel
theorem dX1_removeAllAt_11 : decode cX1_removeAllAt 11 = .ok (.istore_n 3, 1) := by decide +kernel
theorem dX1_removeAllAt_12 : decode cX1_removeAllAt 12 = .ok (.iload_n 3, 1) := by decide +kernel
theorem dX1_removeAllAt_13 : decode cX1_removeAllAt 13 = .ok (.iload_n 2, 1) := by decide +kernel
theorem dX1_removeAllAt_14 : decode cX1_removeAllAt 14 = .ok (.if_icmp .ge 47, 3) := by decide +kernel
theorem dX1_removeAllAt_17 : decode cX1_removeAllAt 17 = .ok (.aload_n 0, 1) := by decide +kernel
theorem dX1_removeAllAt_18 : decode cX1_removeAllAt 18 = .ok (.getfield 19, 3) := by decide +kernel
theorem dX1_removeAllAt_21 : decode cX1_removeAllAt 21 = .ok (.iload_n 3, 1) := by decide +kernel
theorem dX1_removeAllAt_22 : decode cX1_removeAllAt 22 = .ok (.iaload, 1) := by decide +kernel
theorem dX1_removeAllAt_23 : decode cX1_removeAllAt 23 = .ok (.iload_n 1, 1) := by decide +kernel
theorem dX1_removeAllAt_24 : decode cX1_removeAllAt 24 = .ok (.if_icmp .eq 31, 3) := by decide +kernel
theorem dX1_removeAllAt_27 : decode cX1_removeAllAt 27 = .ok (.aload_n 0, 1) := by decide +kernel
theorem dX1_removeAllAt_28 : decode cX1_removeAllAt 28 = .ok (.aload_n 0, 1) := by decide +kernel
theorem dX1_removeAllAt_29 : decode cX1_removeAllAt 29 = .ok (.getfield 9, 3) := by decide +kernel
theorem dX1_removeAllAt_32 : decode cX1_removeAllAt 32 = .ok (.iload_n 3, 1) := by decide +kernel
theorem dX1_removeAllAt_33 : decode cX1_removeAllAt 33 = .ok (.iaload, 1) := by decide +kernel
theorem dX1_removeAllAt_34 : decode cX1_removeAllAt 34 = .ok (.aload_n 0, 1) := by decide +kernel
theorem dX1_removeAllAt_35 : decode cX1_removeAllAt 35 = .ok (.getfield 13, 3) := by decide +kernel
theorem dX1_removeAllAt_38 : decode cX1_removeAllAt 38 = .ok (.iload_n 3, 1) := by decide +kernel
theorem dX1_removeAllAt_39 : decode cX1_removeAllAt 39 = .ok (.iaload, 1) := by decide +kernel
theorem dX1_removeAllAt_40 : decode cX1_removeAllAt 40 = .ok (.aload_n 0, 1) := by decide +kernel
theorem dX1_removeAllAt_41 : decode cX1_removeAllAt 41 = .ok (.getfield 16, 3) := by decide +kernel
theorem dX1_removeAllAt_44 : decode cX1_removeAllAt 44 = .ok (.iload_n 3, 1) := by decide +kernel
theorem dX1_removeAllAt_45 : decode cX1_removeAllAt 45 = .ok (.iaload, 1) := by decide +kernel
theorem dX1_removeAllAt_46 : decode cX1_removeAllAt 46 = .ok (.aload_n 0, 1) := by decide +kernel
theorem dX1_removeAllAt_47 : decode cX1_removeAllAt 47 = .ok (.getfield 19, 3) := by decide +kernel
theorem dX1_removeAllAt_50 : decode cX1_removeAllAt 50 = .ok (.iload_n 3, 1) := by decide +kernel
theorem dX1_removeAllAt_51 : decode cX1_removeAllAt 51 = .ok (.iaload, 1) := by decide +kernel
theorem dX1_removeAllAt_52 : decode cX1_removeAllAt 52 = .ok (.invokevirtual 30, 3) := by decide +kernel
theorem dX1_removeAllAt_55 : decode cX1_removeAllAt 55 = .ok (.iinc 3 1, 3) := by decide +kernel
theorem dX1_removeAllAt_58 : decode cX1_removeAllAt 58 = .ok (.goto (-46), 3) := by decide +kernel
theorem dX1_removeAllAt_61 : decode cX1_removeAllAt 61 = .ok (.return_, 1) := by decide +kernel
theorem dX2_init_0 : decode cX2_init 0 = .ok (.aload_n 0, 1) := by decide +kernel
theorem dX2_init_1 : decode cX2_init 1 = .ok (.invokespecial 3, 3) := by decide +kernel
theorem dX2_init_4 : decode cX2_init 4 = .ok (.return_, 1) := by decide +kernel
theorem dX2_copyFrom_0 : decode cX2_copyFrom 0 = .ok (.aload_n 0, 1) := by decide +kernel
theorem dX2_copyFrom_1 : decode cX2_copyFrom 1 = .ok (.aload_n 1, 1) := by decide +kernel
theorem dX2_copyFrom_2 : decode cX2_copyFrom 2 = .ok (.getfield 9, 3) := by decide +kernel
theorem dX2_copyFrom_5 : decode cX2_copyFrom 5 = .ok (.putfield 9, 3) := by decide +kernel
theorem dX2_copyFrom_8 : decode cX2_copyFrom 8 = .ok (.aload_n 0, 1) := by decide +kernel
theorem dX2_copyFrom_9 : decode cX2_copyFrom 9 = .ok (.aload_n 1, 1) := by decide +kernel
theorem dX2_copyFrom_10 : decode cX2_copyFrom 10 = .ok (.getfield 15, 3) := by decide +kernel
theorem dX2_copyFrom_13 : decode cX2_copyFrom 13 = .ok (.putfield 15, 3) := by decide +kernel
theorem dX2_copyFrom_16 : decode cX2_copyFrom 16 = .ok (.aload_n 0, 1) := by decide +kernel
theorem dX2_copyFrom_17 : decode cX2_copyFrom 17 = .ok (.aload_n 1, 1) := by decide +kernel
theorem dX2_copyFrom_18 : decode cX2_copyFrom 18 = .ok (.getfield 18, 3) := by decide +kernel
theorem dX2_copyFrom_21 : decode cX2_copyFrom 21 = .ok (.putfield 18, 3) := by decide +kernel
theorem dX2_copyFrom_24 : decode cX2_copyFrom 24 = .ok (.aload_n 0, 1) := by decide +kernel
theorem dX2_copyFrom_25 : decode cX2_copyFrom 25 = .ok (.aload_n 1, 1) := by decide +kernel
theorem dX2_copyFrom_26 : decode cX2_copyFrom 26 = .ok (.getfield 21, 3) := by decide +kernel
theorem dX2_copyFrom_29 : decode cX2_copyFrom 29 = .ok (.putfield 21, 3) := by decide +kernel
theorem dX2_copyFrom_32 : decode cX2_copyFrom 32 = .ok (.aload_n 0, 1) := by decide +kernel
theorem dX2_copyFrom_33 : decode cX2_copyFrom 33 = .ok (.aload_n 1, 1) := by decide +kernel
theorem dX2_copyFrom_34 : decode cX2_copyFrom 34 = .ok (.getfield 24, 3) := by decide +kernel
theorem dX2_copyFrom_37 : decode cX2_copyFrom 37 = .ok (.putfield 24, 3) := by decide +kernel
theorem dX2_copyFrom_40 : decode cX2_copyFrom 40 = .ok (.aload_n 0, 1) := by decide +kernel
theorem dX2_copyFrom_41 : decode cX2_copyFrom 41 = .ok (.aload_n 1, 1) := by decide +kernel
theorem dX2_copyFrom_42 : decode cX2_copyFrom 42 = .ok (.getfield 27, 3) := by decide +kernel
theorem dX2_copyFrom_45 : decode cX2_copyFrom 45 = .ok (.putfield 27, 3) := by decide +kernel
theorem dX2_copyFrom_48 : decode cX2_copyFrom 48 = .ok (.aload_n 0, 1) := by decide +kernel
theorem dX2_copyFrom_49 : decode cX2_copyFrom 49 = .ok (.aload_n 1, 1) := by decide +kernel
theorem dX2_copyFrom_50 : decode cX2_copyFrom 50 = .ok (.getfield 30, 3) := by decide +kernel
theorem dX2_copyFrom_53 : decode cX2_copyFrom 53 = .ok (.putfield 30, 3) := by decide +kernel
theorem dX2_copyFrom_56 : decode cX2_copyFrom 56 = .ok (.aload_n 0, 1) := by decide +kernel
theorem dX2_copyFrom_57 : decode cX2_copyFrom 57 = .ok (.aload_n 1, 1) := by decide +kernel
theorem dX2_copyFrom_58 : decode cX2_copyFrom 58 = .ok (.getfield 33, 3) := by decide +kernel
theorem dX2_copyFrom_61 : decode cX2_copyFrom 61 = .ok (.putfield 33, 3) := by decide +kernel
theorem dX2_copyFrom_64 : decode cX2_copyFrom 64 = .ok (.aload_n 0, 1) := by decide +kernel
theorem dX2_copyFrom_65 : decode cX2_copyFrom 65 = .ok (.aload_n 1, 1) := by decide +kernel
theorem dX2_copyFrom_66 : decode cX2_copyFrom 66 = .ok (.getfield 36, 3) := by decide +kernel
theorem dX2_copyFrom_69 : decode cX2_copyFrom 69 = .ok (.putfield 36, 3) := by decide +kernel
theorem dX2_copyFrom_72 : decode cX2_copyFrom 72 = .ok (.return_, 1) := by decide +kernel
theorem dX2_takenAs_0 : decode cX2_takenAs 0 = .ok (.iload_n 1, 1) := by decide +kernel
theorem dX2_takenAs_1 : decode cX2_takenAs 1 = .ok (.iconst 3, 1) := by decide +kernel
theorem dX2_takenAs_2 : decode cX2_takenAs 2 = .ok (.if_icmp .ne 8, 3) := by decide +kernel
theorem dX2_takenAs_5 : decode cX2_takenAs 5 = .ok (.aload_n 0, 1) := by decide +kernel
theorem dX2_takenAs_6 : decode cX2_takenAs 6 = .ok (.getfield 18, 3) := by decide +kernel
theorem dX2_takenAs_9 : decode cX2_takenAs 9 = .ok (.ireturn, 1) := by decide +kernel
theorem dX2_takenAs_10 : decode cX2_takenAs 10 = .ok (.iload_n 1, 1) := by decide +kernel
theorem dX2_takenAs_11 : decode cX2_takenAs 11 = .ok (.iconst 1, 1) := by decide +kernel
theorem dX2_takenAs_12 : decode cX2_takenAs 12 = .ok (.if_icmp .ne 10, 3) := by decide +kernel
theorem dX2_takenAs_15 : decode cX2_takenAs 15 = .ok (.aload_n 0, 1) := by decide +kernel
theorem dX2_takenAs_16 : decode cX2_takenAs 16 = .ok (.getfield 9, 3) := by decide +kernel
theorem dX2_takenAs_19 : decode cX2_takenAs 19 = .ok (.goto 7, 3) := by decide +kernel
theorem dX2_takenAs_22 : decode cX2_takenAs 22 = .ok (.aload_n 0, 1) := by decide +kernel
theorem dX2_takenAs_23 : decode cX2_takenAs 23 = .ok (.getfield 15, 3) := by decide +kernel
theorem dX2_takenAs_26 : decode cX2_takenAs 26 = .ok (.ireturn, 1) := by decide +kernel
theorem dX2_countKnown_0 : decode cX2_countKnown 0 = .ok (.iload_n 1, 1) := by decide +kernel
theorem dX2_countKnown_1 : decode cX2_countKnown 1 = .ok (.iconst 1, 1) := by decide +kernel
theorem dX2_countKnown_2 : decode cX2_countKnown 2 = .ok (.if_icmp .ne 16, 3) := by decide +kernel
theorem dX2_countKnown_5 : decode cX2_countKnown 5 = .ok (.aload_n 0, 1) := by decide +kernel
theorem dX2_countKnown_6 : decode cX2_countKnown 6 = .ok (.dup, 1) := by decide +kernel
theorem dX2_countKnown_7 : decode cX2_countKnown 7 = .ok (.getfield 9, 3) := by decide +kernel
theorem dX2_countKnown_10 : decode cX2_countKnown 10 = .ok (.iconst 1, 1) := by decide +kernel
theorem dX2_countKnown_11 : decode cX2_countKnown 11 = .ok (.iadd, 1) := by decide +kernel
theorem dX2_countKnown_12 : decode cX2_countKnown 12 = .ok (.putfield 9, 3) := by decide +kernel
theorem dX2_countKnown_15 : decode cX2_countKnown 15 = .ok (.goto 13, 3) := by decide +kernel
theorem dX2_countKnown_18 : decode cX2_countKnown 18 = .ok (.aload_n 0, 1) := by decide +kernel
theorem dX2_countKnown_19 : decode cX2_countKnown 19 = .ok (.dup, 1) := by decide +kernel
theorem dX2_countKnown_20 : decode cX2_countKnown 20 = .ok (.getfield 15, 3) := by decide +kernel
theorem dX2_countKnown_23 : decode cX2_countKnown 23 = .ok (.iconst 1, 1) := by decide +kernel
theorem dX2_countKnown_24 : decode cX2_countKnown 24 = .ok (.iadd, 1) := by decide +kernel
theorem dX2_countKnown_25 : decode cX2_countKnown 25 = .ok (.putfield 15, 3) := by decide +kernel
theorem dX2_countKnown_28 : decode cX2_countKnown 28 = .ok (.aload_n 0, 1) := by decide +kernel
theorem dX2_countKnown_29 : decode cX2_countKnown 29 = .ok (.iconst 0, 1) := by decide +kernel
theorem dX2_countKnown_30 : decode cX2_countKnown 30 = .ok (.putfield 33, 3) := by decide +kernel
theorem dX2_countKnown_33 : decode cX2_countKnown 33 = .ok (.return_, 1) := by decide +kernel
theorem dX2_countConcealed_0 : decode cX2_countConcealed 0 = .ok (.aload_n 0, 1) := by decide +kernel
theorem dX2_countConcealed_1 : decode cX2_countConcealed 1 = .ok (.dup, 1) := by decide +kernel
theorem dX2_countConcealed_2 : decode cX2_countConcealed 2 = .ok (.getfield 18, 3) := by decide +kernel
theorem dX2_countConcealed_5 : decode cX2_countConcealed 5 = .ok (.iconst 1, 1) := by decide +kernel
theorem dX2_countConcealed_6 : decode cX2_countConcealed 6 = .ok (.iadd, 1) := by decide +kernel
theorem dX2_countConcealed_7 : decode cX2_countConcealed 7 = .ok (.putfield 18, 3) := by decide +kernel
theorem dX2_countConcealed_10 : decode cX2_countConcealed 10 = .ok (.aload_n 0, 1) := by decide +kernel
theorem dX2_countConcealed_11 : decode cX2_countConcealed 11 = .ok (.dup, 1) := by decide +kernel
theorem dX2_countConcealed_12 : decode cX2_countConcealed 12 = .ok (.getfield 33, 3) := by decide +kernel
theorem dX2_countConcealed_15 : decode cX2_countConcealed 15 = .ok (.iconst 1, 1) := by decide +kernel
theorem dX2_countConcealed_16 : decode cX2_countConcealed 16 = .ok (.iadd, 1) := by decide +kernel
theorem dX2_countConcealed_17 : decode cX2_countConcealed 17 = .ok (.putfield 33, 3) := by decide +kernel
theorem dX2_countConcealed_20 : decode cX2_countConcealed 20 = .ok (.aload_n 0, 1) := by decide +kernel
theorem dX2_countConcealed_21 : decode cX2_countConcealed 21 = .ok (.aload_n 0, 1) := by decide +kernel
theorem dX2_countConcealed_22 : decode cX2_countConcealed 22 = .ok (.getfield 36, 3) := by decide +kernel
theorem dX2_countConcealed_25 : decode cX2_countConcealed 25 = .ok (.aload_n 0, 1) := by decide +kernel
theorem dX2_countConcealed_26 : decode cX2_countConcealed 26 = .ok (.getfield 33, 3) := by decide +kernel
theorem dX2_countConcealed_29 : decode cX2_countConcealed 29 = .ok (.invokestatic 39, 3) := by decide +kernel
theorem dX2_countConcealed_32 : decode cX2_countConcealed 32 = .ok (.putfield 36, 3) := by decide +kernel
theorem dX2_countConcealed_35 : decode cX2_countConcealed 35 = .ok (.return_, 1) := by decide +kernel
theorem dX3_init_0 : decode cX3_init 0 = .ok (.aload_n 0, 1) := by decide +kernel
theorem dX3_init_1 : decode cX3_init 1 = .ok (.invokespecial 5, 3) := by decide +kernel
theorem dX3_init_4 : decode cX3_init 4 = .ok (.aload_n 0, 1) := by decide +kernel
theorem dX3_init_5 : decode cX3_init 5 = .ok (.sipush 250, 3) := by decide +kernel
theorem dX3_init_8 : decode cX3_init 8 = .ok (.newarray .long, 2) := by decide +kernel
theorem dX3_init_10 : decode cX3_init 10 = .ok (.putfield 13, 3) := by decide +kernel
theorem dX3_init_13 : decode cX3_init 13 = .ok (.aload_n 0, 1) := by decide +kernel
theorem dX3_init_14 : decode cX3_init 14 = .ok (.sipush 250, 3) := by decide +kernel
theorem dX3_init_17 : decode cX3_init 17 = .ok (.newarray .long, 2) := by decide +kernel
theorem dX3_init_19 : decode cX3_init 19 = .ok (.putfield 17, 3) := by decide +kernel
theorem dX3_init_22 : decode cX3_init 22 = .ok (.aload_n 0, 1) := by decide +kernel
theorem dX3_init_23 : decode cX3_init 23 = .ok (.sipush 250, 3) := by decide +kernel
theorem dX3_init_26 : decode cX3_init 26 = .ok (.newarray .int, 2) := by decide +kernel
theorem dX3_init_28 : decode cX3_init 28 = .ok (.putfield 20, 3) := by decide +kernel
theorem dX3_init_31 : decode cX3_init 31 = .ok (.return_, 1) := by decide +kernel
theorem dX3_copyFrom_0 : decode cX3_copyFrom 0 = .ok (.aload_n 1, 1) := by decide +kernel
theorem dX3_copyFrom_1 : decode cX3_copyFrom 1 = .ok (.getfield 13, 3) := by decide +kernel
theorem dX3_copyFrom_4 : decode cX3_copyFrom 4 = .ok (.iconst 0, 1) := by decide +kernel
theorem dX3_copyFrom_5 : decode cX3_copyFrom 5 = .ok (.aload_n 0, 1) := by decide +kernel
theorem dX3_copyFrom_6 : decode cX3_copyFrom 6 = .ok (.getfield 13, 3) := by decide +kernel
theorem dX3_copyFrom_9 : decode cX3_copyFrom 9 = .ok (.iconst 0, 1) := by decide +kernel
theorem dX3_copyFrom_10 : decode cX3_copyFrom 10 = .ok (.sipush 250, 3) := by decide +kernel
theorem dX3_copyFrom_13 : decode cX3_copyFrom 13 = .ok (.invokestatic 24, 3) := by decide +kernel
theorem dX3_copyFrom_16 : decode cX3_copyFrom 16 = .ok (.aload_n 1, 1) := by decide +kernel
theorem dX3_copyFrom_17 : decode cX3_copyFrom 17 = .ok (.getfield 17, 3) := by decide +kernel
theorem dX3_copyFrom_20 : decode cX3_copyFrom 20 = .ok (.iconst 0, 1) := by decide +kernel
theorem dX3_copyFrom_21 : decode cX3_copyFrom 21 = .ok (.aload_n 0, 1) := by decide +kernel
theorem dX3_copyFrom_22 : decode cX3_copyFrom 22 = .ok (.getfield 17, 3) := by decide +kernel
theorem dX3_copyFrom_25 : decode cX3_copyFrom 25 = .ok (.iconst 0, 1) := by decide +kernel
theorem dX3_copyFrom_26 : decode cX3_copyFrom 26 = .ok (.sipush 250, 3) := by decide +kernel
theorem dX3_copyFrom_29 : decode cX3_copyFrom 29 = .ok (.invokestatic 24, 3) := by decide +kernel
theorem dX3_copyFrom_32 : decode cX3_copyFrom 32 = .ok (.aload_n 1, 1) := by decide +kernel
theorem dX3_copyFrom_33 : decode cX3_copyFrom 33 = .ok (.getfield 20, 3) := by decide +kernel
theorem dX3_copyFrom_36 : decode cX3_copyFrom 36 = .ok (.iconst 0, 1) := by decide +kernel
theorem dX3_copyFrom_37 : decode cX3_copyFrom 37 = .ok (.aload_n 0, 1) := by decide +kernel
theorem dX3_copyFrom_38 : decode cX3_copyFrom 38 = .ok (.getfield 20, 3) := by decide +kernel
theorem dX3_copyFrom_41 : decode cX3_copyFrom 41 = .ok (.iconst 0, 1) := by decide +kernel
theorem dX3_copyFrom_42 : decode cX3_copyFrom 42 = .ok (.sipush 250, 3) := by decide +kernel
theorem dX3_copyFrom_45 : decode cX3_copyFrom 45 = .ok (.invokestatic 24, 3) := by decide +kernel
theorem dX3_copyFrom_48 : decode cX3_copyFrom 48 = .ok (.return_, 1) := by decide +kernel
theorem dX3_stateOf_0 : decode cX3_stateOf 0 = .ok (.iload_n 2, 1) := by decide +kernel
theorem dX3_stateOf_1 : decode cX3_stateOf 1 = .ok (.aload_n 1, 1) := by decide +kernel
theorem dX3_stateOf_2 : decode cX3_stateOf 2 = .ok (.invokevirtual 30, 3) := by decide +kernel
theorem dX3_stateOf_5 : decode cX3_stateOf 5 = .ok (.idiv, 1) := by decide +kernel
theorem dX3_stateOf_6 : decode cX3_stateOf 6 = .ok (.istore_n 3, 1) := by decide +kernel
theorem dX3_stateOf_7 : decode cX3_stateOf 7 = .ok (.iload_n 2, 1) := by decide +kernel
theorem dX3_stateOf_8 : decode cX3_stateOf 8 = .ok (.aload_n 1, 1) := by decide +kernel
theorem dX3_stateOf_9 : decode cX3_stateOf 9 = .ok (.invokevirtual 30, 3) := by decide +kernel
theorem dX3_stateOf_12 : decode cX3_stateOf 12 = .ok (.irem, 1) := by decide +kernel
theorem dX3_stateOf_13 : decode cX3_stateOf 13 = .ok (.istore 4, 2) := by decide +kernel
theorem dX3_stateOf_15 : decode cX3_stateOf 15 = .ok (.aload_n 0, 1) := by decide +kernel
theorem dX3_stateOf_16 : decode cX3_stateOf 16 = .ok (.getfield 17, 3) := by decide +kernel
theorem dX3_stateOf_19 : decode cX3_stateOf 19 = .ok (.iload_n 3, 1) := by decide +kernel
theorem dX3_stateOf_20 : decode cX3_stateOf 20 = .ok (.laload, 1) := by decide +kernel
theorem dX3_stateOf_21 : decode cX3_stateOf 21 = .ok (.iload 4, 2) := by decide +kernel
theorem dX3_stateOf_23 : decode cX3_stateOf 23 = .ok (.lshr, 1) := by decide +kernel
theorem dX3_stateOf_24 : decode cX3_stateOf 24 = .ok (.lconst 1, 1) := by decide +kernel
theorem dX3_stateOf_25 : decode cX3_stateOf 25 = .ok (.land, 1) := by decide +kernel
theorem dX3_stateOf_26 : decode cX3_stateOf 26 = .ok (.lconst 0, 1) := by decide +kernel
theorem dX3_stateOf_27 : decode cX3_stateOf 27 = .ok (.lcmp, 1) := by decide +kernel
theorem dX3_stateOf_28 : decode cX3_stateOf 28 = .ok (.ifCond .eq 5, 3) := by decide +kernel
theorem dX3_stateOf_31 : decode cX3_stateOf 31 = .ok (.iconst 2, 1) := by decide +kernel
theorem dX3_stateOf_32 : decode cX3_stateOf 32 = .ok (.ireturn, 1) := by decide +kernel
theorem dX3_stateOf_33 : decode cX3_stateOf 33 = .ok (.aload_n 0, 1) := by decide +kernel
theorem dX3_stateOf_34 : decode cX3_stateOf 34 = .ok (.getfield 13, 3) := by decide +kernel
theorem dX3_stateOf_37 : decode cX3_stateOf 37 = .ok (.iload_n 3, 1) := by decide +kernel
theorem dX3_stateOf_38 : decode cX3_stateOf 38 = .ok (.laload, 1) := by decide +kernel
theorem dX3_stateOf_39 : decode cX3_stateOf 39 = .ok (.iload 4, 2) := by decide +kernel
theorem dX3_stateOf_41 : decode cX3_stateOf 41 = .ok (.lshr, 1) := by decide +kernel
theorem dX3_stateOf_42 : decode cX3_stateOf 42 = .ok (.lconst 1, 1) := by decide +kernel
theorem dX3_stateOf_43 : decode cX3_stateOf 43 = .ok (.land, 1) := by decide +kernel
theorem dX3_stateOf_44 : decode cX3_stateOf 44 = .ok (.lconst 0, 1) := by decide +kernel
theorem dX3_stateOf_45 : decode cX3_stateOf 45 = .ok (.lcmp, 1) := by decide +kernel
theorem dX3_stateOf_46 : decode cX3_stateOf 46 = .ok (.ifCond .eq 7, 3) := by decide +kernel
theorem dX3_stateOf_49 : decode cX3_stateOf 49 = .ok (.iconst 1, 1) := by decide +kernel
theorem dX3_stateOf_50 : decode cX3_stateOf 50 = .ok (.goto 4, 3) := by decide +kernel
theorem dX3_stateOf_53 : decode cX3_stateOf 53 = .ok (.iconst 0, 1) := by decide +kernel
theorem dX3_stateOf_54 : decode cX3_stateOf 54 = .ok (.ireturn, 1) := by decide +kernel
theorem dX3_hasPacket_0 : decode cX3_hasPacket 0 = .ok (.aload_n 0, 1) := by decide +kernel
theorem dX3_hasPacket_1 : decode cX3_hasPacket 1 = .ok (.getfield 20, 3) := by decide +kernel
theorem dX3_hasPacket_4 : decode cX3_hasPacket 4 = .ok (.iload_n 2, 1) := by decide +kernel
theorem dX3_hasPacket_5 : decode cX3_hasPacket 5 = .ok (.iaload, 1) := by decide +kernel
theorem dX3_hasPacket_6 : decode cX3_hasPacket 6 = .ok (.iload_n 1, 1) := by decide +kernel
theorem dX3_hasPacket_7 : decode cX3_hasPacket 7 = .ok (.iload_n 3, 1) := by decide +kernel
theorem dX3_hasPacket_8 : decode cX3_hasPacket 8 = .ok (.invokestatic 34, 3) := by decide +kernel
theorem dX3_hasPacket_11 : decode cX3_hasPacket 11 = .ok (.iand, 1) := by decide +kernel
theorem dX3_hasPacket_12 : decode cX3_hasPacket 12 = .ok (.ifCond .eq 7, 3) := by decide +kernel
theorem dX3_hasPacket_15 : decode cX3_hasPacket 15 = .ok (.iconst 1, 1) := by decide +kernel
theorem dX3_hasPacket_16 : decode cX3_hasPacket 16 = .ok (.goto 4, 3) := by decide +kernel
theorem dX3_hasPacket_19 : decode cX3_hasPacket 19 = .ok (.iconst 0, 1) := by decide +kernel
theorem dX3_hasPacket_20 : decode cX3_hasPacket 20 = .ok (.ireturn, 1) := by decide +kernel
theorem dX3_addFrame_0 : decode cX3_addFrame 0 = .ok (.iload_n 2, 1) := by decide +kernel
theorem dX3_addFrame_1 : decode cX3_addFrame 1 = .ok (.aload_n 1, 1) := by decide +kernel
theorem dX3_addFrame_2 : decode cX3_addFrame 2 = .ok (.invokevirtual 30, 3) := by decide +kernel
theorem dX3_addFrame_5 : decode cX3_addFrame 5 = .ok (.idiv, 1) := by decide +kernel
theorem dX3_addFrame_6 : decode cX3_addFrame 6 = .ok (.istore_n 3, 1) := by decide +kernel
theorem dX3_addFrame_7 : decode cX3_addFrame 7 = .ok (.lconst 1, 1) := by decide +kernel
theorem dX3_addFrame_8 : decode cX3_addFrame 8 = .ok (.iload_n 2, 1) := by decide +kernel
theorem dX3_addFrame_9 : decode cX3_addFrame 9 = .ok (.aload_n 1, 1) := by decide +kernel
theorem dX3_addFrame_10 : decode cX3_addFrame 10 = .ok (.invokevirtual 30, 3) := by decide +kernel
theorem dX3_addFrame_13 : decode cX3_addFrame 13 = .ok (.irem, 1) := by decide +kernel
theorem dX3_addFrame_14 : decode cX3_addFrame 14 = .ok (.lshl, 1) := by decide +kernel
theorem dX3_addFrame_15 : decode cX3_addFrame 15 = .ok (.lstore 4, 2) := by decide +kernel
theorem dX3_addFrame_17 : decode cX3_addFrame 17 = .ok (.aload_n 0, 1) := by decide +kernel
theorem dX3_addFrame_18 : decode cX3_addFrame 18 = .ok (.getfield 17, 3) := by decide +kernel
theorem dX3_addFrame_21 : decode cX3_addFrame 21 = .ok (.iload_n 3, 1) := by decide +kernel
theorem dX3_addFrame_22 : decode cX3_addFrame 22 = .ok (.dup2, 1) := by decide +kernel
theorem dX3_addFrame_23 : decode cX3_addFrame 23 = .ok (.laload, 1) := by decide +kernel
theorem dX3_addFrame_24 : decode cX3_addFrame 24 = .ok (.lload 4, 2) := by decide +kernel
theorem dX3_addFrame_26 : decode cX3_addFrame 26 = .ok (.lor, 1) := by decide +kernel
theorem dX3_addFrame_27 : decode cX3_addFrame 27 = .ok (.lastore, 1) := by decide +kernel
theorem dX3_addFrame_28 : decode cX3_addFrame 28 = .ok (.aload_n 0, 1) := by decide +kernel
theorem dX3_addFrame_29 : decode cX3_addFrame 29 = .ok (.getfield 13, 3) := by decide +kernel
theorem dX3_addFrame_32 : decode cX3_addFrame 32 = .ok (.iload_n 3, 1) := by decide +kernel
theorem dX3_addFrame_33 : decode cX3_addFrame 33 = .ok (.dup2, 1) := by decide +kernel
theorem dX3_addFrame_34 : decode cX3_addFrame 34 = .ok (.laload, 1) := by decide +kernel
theorem dX3_addFrame_35 : decode cX3_addFrame 35 = .ok (.lload 4, 2) := by decide +kernel
theorem dX3_addFrame_37 : decode cX3_addFrame 37 = .ok (.lor, 1) := by decide +kernel
theorem dX3_addFrame_38 : decode cX3_addFrame 38 = .ok (.lastore, 1) := by decide +kernel
theorem dX3_addFrame_39 : decode cX3_addFrame 39 = .ok (.return_, 1) := by decide +kernel
theorem dX3_addPacket_0 : decode cX3_addPacket 0 = .ok (.aload_n 0, 1) := by decide +kernel
theorem dX3_addPacket_1 : decode cX3_addPacket 1 = .ok (.getfield 20, 3) := by decide +kernel
theorem dX3_addPacket_4 : decode cX3_addPacket 4 = .ok (.iload_n 2, 1) := by decide +kernel
theorem dX3_addPacket_5 : decode cX3_addPacket 5 = .ok (.dup2, 1) := by decide +kernel
theorem dX3_addPacket_6 : decode cX3_addPacket 6 = .ok (.iaload, 1) := by decide +kernel
theorem dX3_addPacket_7 : decode cX3_addPacket 7 = .ok (.iload_n 1, 1) := by decide +kernel
theorem dX3_addPacket_8 : decode cX3_addPacket 8 = .ok (.iload_n 3, 1) := by decide +kernel
theorem dX3_addPacket_9 : decode cX3_addPacket 9 = .ok (.invokestatic 34, 3) := by decide +kernel
theorem dX3_addPacket_12 : decode cX3_addPacket 12 = .ok (.ior, 1) := by decide +kernel
theorem dX3_addPacket_13 : decode cX3_addPacket 13 = .ok (.iastore, 1) := by decide +kernel
theorem dX3_addPacket_14 : decode cX3_addPacket 14 = .ok (.return_, 1) := by decide +kernel
theorem dX3_restoreIn_0 : decode cX3_restoreIn 0 = .ok (.aload_n 0, 1) := by decide +kernel
theorem dX3_restoreIn_1 : decode cX3_restoreIn 1 = .ok (.aload_n 1, 1) := by decide +kernel
theorem dX3_restoreIn_2 : decode cX3_restoreIn 2 = .ok (.iload_n 2, 1) := by decide +kernel
theorem dX3_restoreIn_3 : decode cX3_restoreIn 3 = .ok (.invokevirtual 38, 3) := by decide +kernel
theorem dX3_restoreIn_6 : decode cX3_restoreIn 6 = .ok (.lstore_n 3, 1) := by decide +kernel
theorem dX3_restoreIn_7 : decode cX3_restoreIn 7 = .ok (.aload_n 1, 1) := by decide +kernel
theorem dX3_restoreIn_8 : decode cX3_restoreIn 8 = .ok (.lload_n 3, 1) := by decide +kernel
theorem dX3_restoreIn_9 : decode cX3_restoreIn 9 = .ok (.aload_n 0, 1) := by decide +kernel
theorem dX3_restoreIn_10 : decode cX3_restoreIn 10 = .ok (.getfield 20, 3) := by decide +kernel
theorem dX3_restoreIn_13 : decode cX3_restoreIn 13 = .ok (.iload_n 2, 1) := by decide +kernel
theorem dX3_restoreIn_14 : decode cX3_restoreIn 14 = .ok (.iaload, 1) := by decide +kernel
theorem dX3_restoreIn_15 : decode cX3_restoreIn 15 = .ok (.invokestatic 42, 3) := by decide +kernel
theorem dX3_restoreIn_18 : decode cX3_restoreIn 18 = .ok (.lstore 5, 2) := by decide +kernel
theorem dX3_restoreIn_20 : decode cX3_restoreIn 20 = .ok (.aload_n 0, 1) := by decide +kernel
theorem dX3_restoreIn_21 : decode cX3_restoreIn 21 = .ok (.getfield 13, 3) := by decide +kernel
theorem dX3_restoreIn_24 : decode cX3_restoreIn 24 = .ok (.iload_n 2, 1) := by decide +kernel
theorem dX3_restoreIn_25 : decode cX3_restoreIn 25 = .ok (.lload 5, 2) := by decide +kernel
theorem dX3_restoreIn_27 : decode cX3_restoreIn 27 = .ok (.lastore, 1) := by decide +kernel
theorem dX3_restoreIn_28 : decode cX3_restoreIn 28 = .ok (.lload 5, 2) := by decide +kernel
theorem dX3_restoreIn_30 : decode cX3_restoreIn 30 = .ok (.lload_n 3, 1) := by decide +kernel
theorem dX3_restoreIn_31 : decode cX3_restoreIn 31 = .ok (.ldc2_w 46, 3) := by decide +kernel
theorem dX3_restoreIn_34 : decode cX3_restoreIn 34 = .ok (.lxor, 1) := by decide +kernel
theorem dX3_restoreIn_35 : decode cX3_restoreIn 35 = .ok (.land, 1) := by decide +kernel
theorem dX3_restoreIn_36 : decode cX3_restoreIn 36 = .ok (.invokestatic 48, 3) := by decide +kernel
theorem dX3_restoreIn_39 : decode cX3_restoreIn 39 = .ok (.ireturn, 1) := by decide +kernel
theorem dX3_missingIn_0 : decode cX3_missingIn 0 = .ok (.aload_n 1, 1) := by decide +kernel
theorem dX3_missingIn_1 : decode cX3_missingIn 1 = .ok (.iload_n 2, 1) := by decide +kernel
theorem dX3_missingIn_2 : decode cX3_missingIn 2 = .ok (.iload 4, 2) := by decide +kernel
theorem dX3_missingIn_4 : decode cX3_missingIn 4 = .ok (.invokestatic 54, 3) := by decide +kernel
theorem dX3_missingIn_7 : decode cX3_missingIn 7 = .ok (.aload_n 0, 1) := by decide +kernel
theorem dX3_missingIn_8 : decode cX3_missingIn 8 = .ok (.aload_n 1, 1) := by decide +kernel
theorem dX3_missingIn_9 : decode cX3_missingIn 9 = .ok (.iload_n 3, 1) := by decide +kernel
theorem dX3_missingIn_10 : decode cX3_missingIn 10 = .ok (.invokevirtual 38, 3) := by decide +kernel
theorem dX3_missingIn_13 : decode cX3_missingIn 13 = .ok (.ldc2_w 46, 3) := by decide +kernel
theorem dX3_missingIn_16 : decode cX3_missingIn 16 = .ok (.lxor, 1) := by decide +kernel
theorem dX3_missingIn_17 : decode cX3_missingIn 17 = .ok (.land, 1) := by decide +kernel
theorem dX3_missingIn_18 : decode cX3_missingIn 18 = .ok (.invokestatic 48, 3) := by decide +kernel
theorem dX3_missingIn_21 : decode cX3_missingIn 21 = .ok (.ireturn, 1) := by decide +kernel
theorem dX3_unrestorableIn_0 : decode cX3_unrestorableIn 0 = .ok (.lconst 1, 1) := by decide +kernel
theorem dX3_unrestorableIn_1 : decode cX3_unrestorableIn 1 = .ok (.aload_n 1, 1) := by decide +kernel
theorem dX3_unrestorableIn_2 : decode cX3_unrestorableIn 2 = .ok (.invokevirtual 30, 3) := by decide +kernel
theorem dX3_unrestorableIn_5 : decode cX3_unrestorableIn 5 = .ok (.lshl, 1) := by decide +kernel
theorem dX3_unrestorableIn_6 : decode cX3_unrestorableIn 6 = .ok (.lconst 1, 1) := by decide +kernel
theorem dX3_unrestorableIn_7 : decode cX3_unrestorableIn 7 = .ok (.lsub, 1) := by decide +kernel
theorem dX3_unrestorableIn_8 : decode cX3_unrestorableIn 8 = .ok (.lstore_n 3, 1) := by decide +kernel
theorem dX3_unrestorableIn_9 : decode cX3_unrestorableIn 9 = .ok (.lload_n 3, 1) := by decide +kernel
theorem dX3_unrestorableIn_10 : decode cX3_unrestorableIn 10 = .ok (.aload_n 1, 1) := by decide +kernel
theorem dX3_unrestorableIn_11 : decode cX3_unrestorableIn 11 = .ok (.aload_n 0, 1) := by decide +kernel
theorem dX3_unrestorableIn_12 : decode cX3_unrestorableIn 12 = .ok (.aload_n 1, 1) := by decide +kernel
theorem dX3_unrestorableIn_13 : decode cX3_unrestorableIn 13 = .ok (.iload_n 2, 1) := by decide +kernel
theorem dX3_unrestorableIn_14 : decode cX3_unrestorableIn 14 = .ok (.invokevirtual 38, 3) := by decide +kernel
theorem dX3_unrestorableIn_17 : decode cX3_unrestorableIn 17 = .ok (.iconst (-1), 1) := by decide +kernel
theorem dX3_unrestorableIn_18 : decode cX3_unrestorableIn 18 = .ok (.invokestatic 42, 3) := by decide +kernel
theorem dX3_unrestorableIn_21 : decode cX3_unrestorableIn 21 = .ok (.ldc2_w 46, 3) := by decide +kernel
theorem dX3_unrestorableIn_24 : decode cX3_unrestorableIn 24 = .ok (.lxor, 1) := by decide +kernel
theorem dX3_unrestorableIn_25 : decode cX3_unrestorableIn 25 = .ok (.land, 1) := by decide +kernel
theorem dX3_unrestorableIn_26 : decode cX3_unrestorableIn 26 = .ok (.invokestatic 48, 3) := by decide +kernel
theorem dX3_unrestorableIn_29 : decode cX3_unrestorableIn 29 = .ok (.ireturn, 1) := by decide +kernel
theorem dX3_knownFrom_0 : decode cX3_knownFrom 0 = .ok (.iload_n 2, 1) := by decide +kernel
theorem dX3_knownFrom_1 : decode cX3_knownFrom 1 = .ok (.istore_n 3, 1) := by decide +kernel
theorem dX3_knownFrom_2 : decode cX3_knownFrom 2 = .ok (.iload_n 3, 1) := by decide +kernel
theorem dX3_knownFrom_3 : decode cX3_knownFrom 3 = .ok (.sipush 999, 3) := by decide +kernel
theorem dX3_knownFrom_6 : decode cX3_knownFrom 6 = .ok (.if_icmp .gt 21, 3) := by decide +kernel
theorem dX3_knownFrom_9 : decode cX3_knownFrom 9 = .ok (.aload_n 0, 1) := by decide +kernel
theorem dX3_knownFrom_10 : decode cX3_knownFrom 10 = .ok (.aload_n 1, 1) := by decide +kernel
theorem dX3_knownFrom_11 : decode cX3_knownFrom 11 = .ok (.iload_n 3, 1) := by decide +kernel
theorem dX3_knownFrom_12 : decode cX3_knownFrom 12 = .ok (.invokevirtual 58, 3) := by decide +kernel
theorem dX3_knownFrom_15 : decode cX3_knownFrom 15 = .ok (.ifCond .ne 6, 3) := by decide +kernel
theorem dX3_knownFrom_18 : decode cX3_knownFrom 18 = .ok (.goto 9, 3) := by decide +kernel
theorem dX3_knownFrom_21 : decode cX3_knownFrom 21 = .ok (.iinc 3 1, 3) := by decide +kernel
theorem dX3_knownFrom_24 : decode cX3_knownFrom 24 = .ok (.goto (-22), 3) := by decide +kernel
theorem dX3_knownFrom_27 : decode cX3_knownFrom 27 = .ok (.iload_n 3, 1) := by decide +kernel
theorem dX3_knownFrom_28 : decode cX3_knownFrom 28 = .ok (.iload_n 2, 1) := by decide +kernel
theorem dX3_knownFrom_29 : decode cX3_knownFrom 29 = .ok (.isub, 1) := by decide +kernel
theorem dX3_knownFrom_30 : decode cX3_knownFrom 30 = .ok (.ireturn, 1) := by decide +kernel
theorem dX3_knownIn_0 : decode cX3_knownIn 0 = .ok (.sipush 1000, 3) := by decide +kernel
theorem dX3_knownIn_3 : decode cX3_knownIn 3 = .ok (.iload_n 2, 1) := by decide +kernel
theorem dX3_knownIn_4 : decode cX3_knownIn 4 = .ok (.aload_n 1, 1) := by decide +kernel
theorem dX3_knownIn_5 : decode cX3_knownIn 5 = .ok (.invokevirtual 30, 3) := by decide +kernel
theorem dX3_knownIn_8 : decode cX3_knownIn 8 = .ok (.imul, 1) := by decide +kernel
theorem dX3_knownIn_9 : decode cX3_knownIn 9 = .ok (.isub, 1) := by decide +kernel
theorem dX3_knownIn_10 : decode cX3_knownIn 10 = .ok (.istore_n 3, 1) := by decide +kernel
theorem dX3_knownIn_11 : decode cX3_knownIn 11 = .ok (.iload_n 3, 1) := by decide +kernel
theorem dX3_knownIn_12 : decode cX3_knownIn 12 = .ok (.bipush 64, 2) := by decide +kernel
theorem dX3_knownIn_14 : decode cX3_knownIn 14 = .ok (.if_icmp .ge 11, 3) := by decide +kernel
theorem dX3_knownIn_17 : decode cX3_knownIn 17 = .ok (.ldc2_w 46, 3) := by decide +kernel
theorem dX3_knownIn_20 : decode cX3_knownIn 20 = .ok (.iload_n 3, 1) := by decide +kernel
theorem dX3_knownIn_21 : decode cX3_knownIn 21 = .ok (.lshl, 1) := by decide +kernel
theorem dX3_knownIn_22 : decode cX3_knownIn 22 = .ok (.goto 4, 3) := by decide +kernel
theorem dX3_knownIn_25 : decode cX3_knownIn 25 = .ok (.lconst 0, 1) := by decide +kernel
theorem dX3_knownIn_26 : decode cX3_knownIn 26 = .ok (.lstore 4, 2) := by decide +kernel
theorem dX3_knownIn_28 : decode cX3_knownIn 28 = .ok (.aload_n 0, 1) := by decide +kernel
theorem dX3_knownIn_29 : decode cX3_knownIn 29 = .ok (.getfield 13, 3) := by decide +kernel
theorem dX3_knownIn_32 : decode cX3_knownIn 32 = .ok (.iload_n 2, 1) := by decide +kernel
theorem dX3_knownIn_33 : decode cX3_knownIn 33 = .ok (.laload, 1) := by decide +kernel
theorem dX3_knownIn_34 : decode cX3_knownIn 34 = .ok (.lload 4, 2) := by decide +kernel
theorem dX3_knownIn_36 : decode cX3_knownIn 36 = .ok (.lor, 1) := by decide +kernel
theorem dX3_knownIn_37 : decode cX3_knownIn 37 = .ok (.lreturn, 1) := by decide +kernel
theorem dX3_completed_0 : decode cX3_completed 0 = .ok (.lload_n 1, 1) := by decide +kernel
theorem dX3_completed_1 : decode cX3_completed 1 = .ok (.lstore 4, 2) := by decide +kernel
theorem dX3_completed_3 : decode cX3_completed 3 = .ok (.iconst 0, 1) := by decide +kernel
theorem dX3_completed_4 : decode cX3_completed 4 = .ok (.istore 6, 2) := by decide +kernel
theorem dX3_completed_6 : decode cX3_completed 6 = .ok (.iload 6, 2) := by decide +kernel
theorem dX3_completed_8 : decode cX3_completed 8 = .ok (.bipush 36, 2) := by decide +kernel
theorem dX3_completed_10 : decode cX3_completed 10 = .ok (.if_icmp .gt 84, 3) := by decide +kernel
theorem dX3_completed_13 : decode cX3_completed 13 = .ok (.lload 4, 2) := by decide +kernel
theorem dX3_completed_15 : decode cX3_completed 15 = .ok (.lstore 7, 2) := by decide +kernel
theorem dX3_completed_17 : decode cX3_completed 17 = .ok (.iconst 0, 1) := by decide +kernel
theorem dX3_completed_18 : decode cX3_completed 18 = .ok (.istore 9, 2) := by decide +kernel
theorem dX3_completed_20 : decode cX3_completed 20 = .ok (.iload 9, 2) := by decide +kernel
theorem dX3_completed_22 : decode cX3_completed 22 = .ok (.aload_n 0, 1) := by decide +kernel
theorem dX3_completed_23 : decode cX3_completed 23 = .ok (.getfield 62, 3) := by decide +kernel
theorem dX3_completed_26 : decode cX3_completed 26 = .ok (.if_icmp .ge 21, 3) := by decide +kernel
theorem dX3_completed_29 : decode cX3_completed 29 = .ok (.aload_n 0, 1) := by decide +kernel
theorem dX3_completed_30 : decode cX3_completed 30 = .ok (.lload 4, 2) := by decide +kernel
theorem dX3_completed_32 : decode cX3_completed 32 = .ok (.iload_n 3, 1) := by decide +kernel
theorem dX3_completed_33 : decode cX3_completed 33 = .ok (.iconst 1, 1) := by decide +kernel
theorem dX3_completed_34 : decode cX3_completed 34 = .ok (.iload 9, 2) := by decide +kernel
theorem dX3_completed_36 : decode cX3_completed 36 = .ok (.invokestatic 66, 3) := by decide +kernel
theorem dX3_completed_39 : decode cX3_completed 39 = .ok (.lstore 4, 2) := by decide +kernel
theorem dX3_completed_41 : decode cX3_completed 41 = .ok (.iinc 9 1, 3) := by decide +kernel
theorem dX3_completed_44 : decode cX3_completed 44 = .ok (.goto (-24), 3) := by decide +kernel
theorem dX3_completed_47 : decode cX3_completed 47 = .ok (.iconst 0, 1) := by decide +kernel
theorem dX3_completed_48 : decode cX3_completed 48 = .ok (.istore 9, 2) := by decide +kernel
theorem dX3_completed_50 : decode cX3_completed 50 = .ok (.iload 9, 2) := by decide +kernel
theorem dX3_completed_52 : decode cX3_completed 52 = .ok (.aload_n 0, 1) := by decide +kernel
theorem dX3_completed_53 : decode cX3_completed 53 = .ok (.getfield 70, 3) := by decide +kernel
theorem dX3_completed_56 : decode cX3_completed 56 = .ok (.if_icmp .ge 21, 3) := by decide +kernel
theorem dX3_completed_59 : decode cX3_completed 59 = .ok (.aload_n 0, 1) := by decide +kernel
theorem dX3_completed_60 : decode cX3_completed 60 = .ok (.lload 4, 2) := by decide +kernel
theorem dX3_completed_62 : decode cX3_completed 62 = .ok (.iload_n 3, 1) := by decide +kernel
theorem dX3_completed_63 : decode cX3_completed 63 = .ok (.iconst 0, 1) := by decide +kernel
theorem dX3_completed_64 : decode cX3_completed 64 = .ok (.iload 9, 2) := by decide +kernel
theorem dX3_completed_66 : decode cX3_completed 66 = .ok (.invokestatic 66, 3) := by decide +kernel
theorem dX3_completed_69 : decode cX3_completed 69 = .ok (.lstore 4, 2) := by decide +kernel
theorem dX3_completed_71 : decode cX3_completed 71 = .ok (.iinc 9 1, 3) := by decide +kernel
theorem dX3_completed_74 : decode cX3_completed 74 = .ok (.goto (-24), 3) := by decide +kernel
theorem dX3_completed_77 : decode cX3_completed 77 = .ok (.lload 4, 2) := by decide +kernel
theorem dX3_completed_79 : decode cX3_completed 79 = .ok (.lload 7, 2) := by decide +kernel
theorem dX3_completed_81 : decode cX3_completed 81 = .ok (.lcmp, 1) := by decide +kernel
theorem dX3_completed_82 : decode cX3_completed 82 = .ok (.ifCond .ne 6, 3) := by decide +kernel
theorem dX3_completed_85 : decode cX3_completed 85 = .ok (.goto 9, 3) := by decide +kernel
theorem dX3_completed_88 : decode cX3_completed 88 = .ok (.iinc 6 1, 3) := by decide +kernel
theorem dX3_completed_91 : decode cX3_completed 91 = .ok (.goto (-85), 3) := by decide +kernel
theorem dX3_completed_94 : decode cX3_completed 94 = .ok (.lload 4, 2) := by decide +kernel
theorem dX3_completed_96 : decode cX3_completed 96 = .ok (.lreturn, 1) := by decide +kernel
theorem dX3_withLine_0 : decode cX3_withLine 0 = .ok (.iload_n 3, 1) := by decide +kernel
theorem dX3_withLine_1 : decode cX3_withLine 1 = .ok (.iload 4, 2) := by decide +kernel
theorem dX3_withLine_3 : decode cX3_withLine 3 = .ok (.iload 5, 2) := by decide +kernel
theorem dX3_withLine_5 : decode cX3_withLine 5 = .ok (.invokestatic 34, 3) := by decide +kernel
theorem dX3_withLine_8 : decode cX3_withLine 8 = .ok (.iand, 1) := by decide +kernel
theorem dX3_withLine_9 : decode cX3_withLine 9 = .ok (.ifCond .ne 5, 3) := by decide +kernel
theorem dX3_withLine_12 : decode cX3_withLine 12 = .ok (.lload_n 1, 1) := by decide +kernel
theorem dX3_withLine_13 : decode cX3_withLine 13 = .ok (.lreturn, 1) := by decide +kernel
theorem dX3_withLine_14 : decode cX3_withLine 14 = .ok (.aload_n 0, 1) := by decide +kernel
theorem dX3_withLine_15 : decode cX3_withLine 15 = .ok (.iload 4, 2) := by decide +kernel
theorem dX3_withLine_17 : decode cX3_withLine 17 = .ok (.iload 5, 2) := by decide +kernel
theorem dX3_withLine_19 : decode cX3_withLine 19 = .ok (.invokestatic 54, 3) := by decide +kernel
theorem dX3_withLine_22 : decode cX3_withLine 22 = .ok (.lload_n 1, 1) := by decide +kernel
theorem dX3_withLine_23 : decode cX3_withLine 23 = .ok (.ldc2_w 46, 3) := by decide +kernel
theorem dX3_withLine_26 : decode cX3_withLine 26 = .ok (.lxor, 1) := by decide +kernel
theorem dX3_withLine_27 : decode cX3_withLine 27 = .ok (.land, 1) := by decide +kernel
theorem dX3_withLine_28 : decode cX3_withLine 28 = .ok (.lstore 6, 2) := by decide +kernel
theorem dX3_withLine_30 : decode cX3_withLine 30 = .ok (.lload 6, 2) := by decide +kernel
theorem dX3_withLine_32 : decode cX3_withLine 32 = .ok (.invokestatic 48, 3) := by decide +kernel
theorem dX3_withLine_35 : decode cX3_withLine 35 = .ok (.iconst 1, 1) := by decide +kernel
theorem dX3_withLine_36 : decode cX3_withLine 36 = .ok (.if_icmp .ne 10, 3) := by decide +kernel
theorem dX3_withLine_39 : decode cX3_withLine 39 = .ok (.lload_n 1, 1) := by decide +kernel
theorem dX3_withLine_40 : decode cX3_withLine 40 = .ok (.lload 6, 2) := by decide +kernel
theorem dX3_withLine_42 : decode cX3_withLine 42 = .ok (.lor, 1) := by decide +kernel
theorem dX3_withLine_43 : decode cX3_withLine 43 = .ok (.goto 4, 3) := by decide +kernel
theorem dX3_withLine_46 : decode cX3_withLine 46 = .ok (.lload_n 1, 1) := by decide +kernel
theorem dX3_withLine_47 : decode cX3_withLine 47 = .ok (.lreturn, 1) := by decide +kernel
theorem dX3_packetBit_0 : decode cX3_packetBit 0 = .ok (.iconst 1, 1) := by decide +kernel
theorem dX3_packetBit_1 : decode cX3_packetBit 1 = .ok (.iload_n 0, 1) := by decide +kernel
theorem dX3_packetBit_2 : decode cX3_packetBit 2 = .ok (.ifCond .eq 7, 3) := by decide +kernel
theorem dX3_packetBit_5 : decode cX3_packetBit 5 = .ok (.iload_n 1, 1) := by decide +kernel
theorem dX3_packetBit_6 : decode cX3_packetBit 6 = .ok (.goto 7, 3) := by decide +kernel
theorem dX3_packetBit_9 : decode cX3_packetBit 9 = .ok (.bipush 6, 2) := by decide +kernel
theorem dX3_packetBit_11 : decode cX3_packetBit 11 = .ok (.iload_n 1, 1) := by decide +kernel
theorem dX3_packetBit_12 : decode cX3_packetBit 12 = .ok (.iadd, 1) := by decide +kernel
theorem dX3_packetBit_13 : decode cX3_packetBit 13 = .ok (.ishl, 1) := by decide +kernel
theorem dX3_packetBit_14 : decode cX3_packetBit 14 = .ok (.ireturn, 1) := by decide +kernel
theorem dX3_lineBits_0 : decode cX3_lineBits 0 = .ok (.iload_n 1, 1) := by decide +kernel
theorem dX3_lineBits_1 : decode cX3_lineBits 1 = .ok (.ifCond .eq 19, 3) := by decide +kernel
theorem dX3_lineBits_4 : decode cX3_lineBits 4 = .ok (.lconst 1, 1) := by decide +kernel
theorem dX3_lineBits_5 : decode cX3_lineBits 5 = .ok (.aload_n 0, 1) := by decide +kernel
theorem dX3_lineBits_6 : decode cX3_lineBits 6 = .ok (.getfield 70, 3) := by decide +kernel
theorem dX3_lineBits_9 : decode cX3_lineBits 9 = .ok (.lshl, 1) := by decide +kernel
theorem dX3_lineBits_10 : decode cX3_lineBits 10 = .ok (.lconst 1, 1) := by decide +kernel
theorem dX3_lineBits_11 : decode cX3_lineBits 11 = .ok (.lsub, 1) := by decide +kernel
theorem dX3_lineBits_12 : decode cX3_lineBits 12 = .ok (.iload_n 2, 1) := by decide +kernel
theorem dX3_lineBits_13 : decode cX3_lineBits 13 = .ok (.aload_n 0, 1) := by decide +kernel
theorem dX3_lineBits_14 : decode cX3_lineBits 14 = .ok (.getfield 70, 3) := by decide +kernel
theorem dX3_lineBits_17 : decode cX3_lineBits 17 = .ok (.imul, 1) := by decide +kernel
theorem dX3_lineBits_18 : decode cX3_lineBits 18 = .ok (.lshl, 1) := by decide +kernel
theorem dX3_lineBits_19 : decode cX3_lineBits 19 = .ok (.lreturn, 1) := by decide +kernel
theorem dX3_lineBits_20 : decode cX3_lineBits 20 = .ok (.lconst 0, 1) := by decide +kernel
theorem dX3_lineBits_21 : decode cX3_lineBits 21 = .ok (.lstore_n 3, 1) := by decide +kernel
theorem dX3_lineBits_22 : decode cX3_lineBits 22 = .ok (.iconst 0, 1) := by decide +kernel
theorem dX3_lineBits_23 : decode cX3_lineBits 23 = .ok (.istore 5, 2) := by decide +kernel
theorem dX3_lineBits_25 : decode cX3_lineBits 25 = .ok (.iload 5, 2) := by decide +kernel
theorem dX3_lineBits_27 : decode cX3_lineBits 27 = .ok (.aload_n 0, 1) := by decide +kernel
theorem dX3_lineBits_28 : decode cX3_lineBits 28 = .ok (.getfield 62, 3) := by decide +kernel
theorem dX3_lineBits_31 : decode cX3_lineBits 31 = .ok (.if_icmp .ge 23, 3) := by decide +kernel
theorem dX3_lineBits_34 : decode cX3_lineBits 34 = .ok (.lload_n 3, 1) := by decide +kernel
theorem dX3_lineBits_35 : decode cX3_lineBits 35 = .ok (.lconst 1, 1) := by decide +kernel
theorem dX3_lineBits_36 : decode cX3_lineBits 36 = .ok (.iload 5, 2) := by decide +kernel
theorem dX3_lineBits_38 : decode cX3_lineBits 38 = .ok (.aload_n 0, 1) := by decide +kernel
theorem dX3_lineBits_39 : decode cX3_lineBits 39 = .ok (.getfield 70, 3) := by decide +kernel
theorem dX3_lineBits_42 : decode cX3_lineBits 42 = .ok (.imul, 1) := by decide +kernel
theorem dX3_lineBits_43 : decode cX3_lineBits 43 = .ok (.iload_n 2, 1) := by decide +kernel
theorem dX3_lineBits_44 : decode cX3_lineBits 44 = .ok (.iadd, 1) := by decide +kernel
theorem dX3_lineBits_45 : decode cX3_lineBits 45 = .ok (.lshl, 1) := by decide +kernel
theorem dX3_lineBits_46 : decode cX3_lineBits 46 = .ok (.lor, 1) := by decide +kernel
theorem dX3_lineBits_47 : decode cX3_lineBits 47 = .ok (.lstore_n 3, 1) := by decide +kernel
theorem dX3_lineBits_48 : decode cX3_lineBits 48 = .ok (.iinc 5 1, 3) := by decide +kernel
theorem dX3_lineBits_51 : decode cX3_lineBits 51 = .ok (.goto (-26), 3) := by decide +kernel
theorem dX3_lineBits_54 : decode cX3_lineBits 54 = .ok (.lload_n 3, 1) := by decide +kernel
theorem dX3_lineBits_55 : decode cX3_lineBits 55 = .ok (.lreturn, 1) := by decide +kernel
theorem dX4_init_0 : decode cX4_init 0 = .ok (.aload_n 0, 1) := by decide +kernel
theorem dX4_init_1 : decode cX4_init 1 = .ok (.invokespecial 3, 3) := by decide +kernel
theorem dX4_init_4 : decode cX4_init 4 = .ok (.aload_n 0, 1) := by decide +kernel
theorem dX4_init_5 : decode cX4_init 5 = .ok (.bipush 24, 2) := by decide +kernel
theorem dX4_init_7 : decode cX4_init 7 = .ok (.newarray .int, 2) := by decide +kernel
theorem dX4_init_9 : decode cX4_init 9 = .ok (.putfield 11, 3) := by decide +kernel
theorem dX4_init_12 : decode cX4_init 12 = .ok (.aload_n 0, 1) := by decide +kernel
theorem dX4_init_13 : decode cX4_init 13 = .ok (.sipush 256, 3) := by decide +kernel
theorem dX4_init_16 : decode cX4_init 16 = .ok (.newarray .int, 2) := by decide +kernel
theorem dX4_init_18 : decode cX4_init 18 = .ok (.putfield 15, 3) := by decide +kernel
theorem dX4_init_21 : decode cX4_init 21 = .ok (.aload_n 0, 1) := by decide +kernel
theorem dX4_init_22 : decode cX4_init 22 = .ok (.bipush 32, 2) := by decide +kernel
theorem dX4_init_24 : decode cX4_init 24 = .ok (.newarray .int, 2) := by decide +kernel
theorem dX4_init_26 : decode cX4_init 26 = .ok (.putfield 18, 3) := by decide +kernel
theorem dX4_init_29 : decode cX4_init 29 = .ok (.aload_n 0, 1) := by decide +kernel
theorem dX4_init_30 : decode cX4_init 30 = .ok (.bipush 32, 2) := by decide +kernel
theorem dX4_init_32 : decode cX4_init 32 = .ok (.newarray .int, 2) := by decide +kernel
theorem dX4_init_34 : decode cX4_init 34 = .ok (.putfield 21, 3) := by decide +kernel
theorem dX4_init_37 : decode cX4_init 37 = .ok (.return_, 1) := by decide +kernel
theorem dX4_copyFrom_0 : decode cX4_copyFrom 0 = .ok (.aload_n 1, 1) := by decide +kernel
theorem dX4_copyFrom_1 : decode cX4_copyFrom 1 = .ok (.getfield 11, 3) := by decide +kernel
theorem dX4_copyFrom_4 : decode cX4_copyFrom 4 = .ok (.iconst 0, 1) := by decide +kernel
theorem dX4_copyFrom_5 : decode cX4_copyFrom 5 = .ok (.aload_n 0, 1) := by decide +kernel
theorem dX4_copyFrom_6 : decode cX4_copyFrom 6 = .ok (.getfield 11, 3) := by decide +kernel
theorem dX4_copyFrom_9 : decode cX4_copyFrom 9 = .ok (.iconst 0, 1) := by decide +kernel
theorem dX4_copyFrom_10 : decode cX4_copyFrom 10 = .ok (.bipush 24, 2) := by decide +kernel
theorem dX4_copyFrom_12 : decode cX4_copyFrom 12 = .ok (.invokestatic 24, 3) := by decide +kernel
theorem dX4_copyFrom_15 : decode cX4_copyFrom 15 = .ok (.aload_n 0, 1) := by decide +kernel
theorem dX4_copyFrom_16 : decode cX4_copyFrom 16 = .ok (.aload_n 1, 1) := by decide +kernel
theorem dX4_copyFrom_17 : decode cX4_copyFrom 17 = .ok (.getfield 30, 3) := by decide +kernel
theorem dX4_copyFrom_20 : decode cX4_copyFrom 20 = .ok (.putfield 30, 3) := by decide +kernel
theorem dX4_copyFrom_23 : decode cX4_copyFrom 23 = .ok (.aload_n 0, 1) := by decide +kernel
theorem dX4_copyFrom_24 : decode cX4_copyFrom 24 = .ok (.aload_n 1, 1) := by decide +kernel
theorem dX4_copyFrom_25 : decode cX4_copyFrom 25 = .ok (.getfield 34, 3) := by decide +kernel
theorem dX4_copyFrom_28 : decode cX4_copyFrom 28 = .ok (.putfield 34, 3) := by decide +kernel
theorem dX4_copyFrom_31 : decode cX4_copyFrom 31 = .ok (.aload_n 1, 1) := by decide +kernel
theorem dX4_copyFrom_32 : decode cX4_copyFrom 32 = .ok (.getfield 15, 3) := by decide +kernel
theorem dX4_copyFrom_35 : decode cX4_copyFrom 35 = .ok (.iconst 0, 1) := by decide +kernel
theorem dX4_copyFrom_36 : decode cX4_copyFrom 36 = .ok (.aload_n 0, 1) := by decide +kernel
theorem dX4_copyFrom_37 : decode cX4_copyFrom 37 = .ok (.getfield 15, 3) := by decide +kernel
theorem dX4_copyFrom_40 : decode cX4_copyFrom 40 = .ok (.iconst 0, 1) := by decide +kernel
theorem dX4_copyFrom_41 : decode cX4_copyFrom 41 = .ok (.sipush 256, 3) := by decide +kernel
theorem dX4_copyFrom_44 : decode cX4_copyFrom 44 = .ok (.invokestatic 24, 3) := by decide +kernel
theorem dX4_copyFrom_47 : decode cX4_copyFrom 47 = .ok (.aload_n 0, 1) := by decide +kernel
theorem dX4_copyFrom_48 : decode cX4_copyFrom 48 = .ok (.aload_n 1, 1) := by decide +kernel
theorem dX4_copyFrom_49 : decode cX4_copyFrom 49 = .ok (.getfield 37, 3) := by decide +kernel
theorem dX4_copyFrom_52 : decode cX4_copyFrom 52 = .ok (.putfield 37, 3) := by decide +kernel
theorem dX4_copyFrom_55 : decode cX4_copyFrom 55 = .ok (.aload_n 1, 1) := by decide +kernel
theorem dX4_copyFrom_56 : decode cX4_copyFrom 56 = .ok (.getfield 18, 3) := by decide +kernel
theorem dX4_copyFrom_59 : decode cX4_copyFrom 59 = .ok (.iconst 0, 1) := by decide +kernel
theorem dX4_copyFrom_60 : decode cX4_copyFrom 60 = .ok (.aload_n 0, 1) := by decide +kernel
theorem dX4_copyFrom_61 : decode cX4_copyFrom 61 = .ok (.getfield 18, 3) := by decide +kernel
theorem dX4_copyFrom_64 : decode cX4_copyFrom 64 = .ok (.iconst 0, 1) := by decide +kernel
theorem dX4_copyFrom_65 : decode cX4_copyFrom 65 = .ok (.bipush 32, 2) := by decide +kernel
theorem dX4_copyFrom_67 : decode cX4_copyFrom 67 = .ok (.invokestatic 24, 3) := by decide +kernel
theorem dX4_copyFrom_70 : decode cX4_copyFrom 70 = .ok (.aload_n 0, 1) := by decide +kernel
theorem dX4_copyFrom_71 : decode cX4_copyFrom 71 = .ok (.aload_n 1, 1) := by decide +kernel
theorem dX4_copyFrom_72 : decode cX4_copyFrom 72 = .ok (.getfield 40, 3) := by decide +kernel
theorem dX4_copyFrom_75 : decode cX4_copyFrom 75 = .ok (.putfield 40, 3) := by decide +kernel
theorem dX4_copyFrom_78 : decode cX4_copyFrom 78 = .ok (.return_, 1) := by decide +kernel
theorem dX4_remaining_0 : decode cX4_remaining 0 = .ok (.aload_n 0, 1) := by decide +kernel
theorem dX4_remaining_1 : decode cX4_remaining 1 = .ok (.getfield 30, 3) := by decide +kernel
theorem dX4_remaining_4 : decode cX4_remaining 4 = .ok (.aload_n 0, 1) := by decide +kernel
theorem dX4_remaining_5 : decode cX4_remaining 5 = .ok (.getfield 34, 3) := by decide +kernel
theorem dX4_remaining_8 : decode cX4_remaining 8 = .ok (.isub, 1) := by decide +kernel
theorem dX4_remaining_9 : decode cX4_remaining 9 = .ok (.ireturn, 1) := by decide +kernel
theorem dX4_outputAt_0 : decode cX4_outputAt 0 = .ok (.aload_n 0, 1) := by decide +kernel
theorem dX4_outputAt_1 : decode cX4_outputAt 1 = .ok (.getfield 15, 3) := by decide +kernel
theorem dX4_outputAt_4 : decode cX4_outputAt 4 = .ok (.aload_n 0, 1) := by decide +kernel
theorem dX4_outputAt_5 : decode cX4_outputAt 5 = .ok (.getfield 37, 3) := by decide +kernel
theorem dX4_outputAt_8 : decode cX4_outputAt 8 = .ok (.iload_n 1, 1) := by decide +kernel
theorem dX4_outputAt_9 : decode cX4_outputAt 9 = .ok (.isub, 1) := by decide +kernel
theorem dX4_outputAt_10 : decode cX4_outputAt 10 = .ok (.sipush 256, 3) := by decide +kernel
theorem dX4_outputAt_13 : decode cX4_outputAt 13 = .ok (.irem, 1) := by decide +kernel
theorem dX4_outputAt_14 : decode cX4_outputAt 14 = .ok (.iaload, 1) := by decide +kernel
theorem dX4_outputAt_15 : decode cX4_outputAt 15 = .ok (.ireturn, 1) := by decide +kernel
theorem dX4_kindAt_0 : decode cX4_kindAt 0 = .ok (.aload_n 0, 1) := by decide +kernel
theorem dX4_kindAt_1 : decode cX4_kindAt 1 = .ok (.getfield 18, 3) := by decide +kernel
theorem dX4_kindAt_4 : decode cX4_kindAt 4 = .ok (.aload_n 0, 1) := by decide +kernel
theorem dX4_kindAt_5 : decode cX4_kindAt 5 = .ok (.getfield 40, 3) := by decide +kernel
theorem dX4_kindAt_8 : decode cX4_kindAt 8 = .ok (.iload_n 1, 1) := by decide +kernel
theorem dX4_kindAt_9 : decode cX4_kindAt 9 = .ok (.isub, 1) := by decide +kernel
theorem dX4_kindAt_10 : decode cX4_kindAt 10 = .ok (.bipush 32, 2) := by decide +kernel
theorem dX4_kindAt_12 : decode cX4_kindAt 12 = .ok (.irem, 1) := by decide +kernel
theorem dX4_kindAt_13 : decode cX4_kindAt 13 = .ok (.iaload, 1) := by decide +kernel
theorem dX4_kindAt_14 : decode cX4_kindAt 14 = .ok (.ireturn, 1) := by decide +kernel
theorem dX4_putOut_0 : decode cX4_putOut 0 = .ok (.aload_n 0, 1) := by decide +kernel
theorem dX4_putOut_1 : decode cX4_putOut 1 = .ok (.getfield 34, 3) := by decide +kernel
theorem dX4_putOut_4 : decode cX4_putOut 4 = .ok (.aload_n 0, 1) := by decide +kernel
theorem dX4_putOut_5 : decode cX4_putOut 5 = .ok (.getfield 30, 3) := by decide +kernel
theorem dX4_putOut_8 : decode cX4_putOut 8 = .ok (.if_icmp .ge 45, 3) := by decide +kernel
theorem dX4_putOut_11 : decode cX4_putOut 11 = .ok (.aload_n 0, 1) := by decide +kernel
theorem dX4_putOut_12 : decode cX4_putOut 12 = .ok (.getfield 15, 3) := by decide +kernel
theorem dX4_putOut_15 : decode cX4_putOut 15 = .ok (.aload_n 0, 1) := by decide +kernel
theorem dX4_putOut_16 : decode cX4_putOut 16 = .ok (.getfield 37, 3) := by decide +kernel
theorem dX4_putOut_19 : decode cX4_putOut 19 = .ok (.sipush 256, 3) := by decide +kernel
theorem dX4_putOut_22 : decode cX4_putOut 22 = .ok (.irem, 1) := by decide +kernel
theorem dX4_putOut_23 : decode cX4_putOut 23 = .ok (.aload_n 0, 1) := by decide +kernel
theorem dX4_putOut_24 : decode cX4_putOut 24 = .ok (.getfield 11, 3) := by decide +kernel
theorem dX4_putOut_27 : decode cX4_putOut 27 = .ok (.aload_n 0, 1) := by decide +kernel
theorem dX4_putOut_28 : decode cX4_putOut 28 = .ok (.getfield 34, 3) := by decide +kernel
theorem dX4_putOut_31 : decode cX4_putOut 31 = .ok (.iaload, 1) := by decide +kernel
theorem dX4_putOut_32 : decode cX4_putOut 32 = .ok (.iastore, 1) := by decide +kernel
theorem dX4_putOut_33 : decode cX4_putOut 33 = .ok (.aload_n 0, 1) := by decide +kernel
theorem dX4_putOut_34 : decode cX4_putOut 34 = .ok (.dup, 1) := by decide +kernel
theorem dX4_putOut_35 : decode cX4_putOut 35 = .ok (.getfield 37, 3) := by decide +kernel
theorem dX4_putOut_38 : decode cX4_putOut 38 = .ok (.iconst 1, 1) := by decide +kernel
theorem dX4_putOut_39 : decode cX4_putOut 39 = .ok (.iadd, 1) := by decide +kernel
theorem dX4_putOut_40 : decode cX4_putOut 40 = .ok (.putfield 37, 3) := by decide +kernel
theorem dX4_putOut_43 : decode cX4_putOut 43 = .ok (.aload_n 0, 1) := by decide +kernel
theorem dX4_putOut_44 : decode cX4_putOut 44 = .ok (.dup, 1) := by decide +kernel
theorem dX4_putOut_45 : decode cX4_putOut 45 = .ok (.getfield 34, 3) := by decide +kernel
theorem dX4_putOut_48 : decode cX4_putOut 48 = .ok (.iconst 1, 1) := by decide +kernel
theorem dX4_putOut_49 : decode cX4_putOut 49 = .ok (.iadd, 1) := by decide +kernel
theorem dX4_putOut_50 : decode cX4_putOut 50 = .ok (.putfield 34, 3) := by decide +kernel
theorem dX4_putOut_53 : decode cX4_putOut 53 = .ok (.return_, 1) := by decide +kernel
theorem dX4_begin_0 : decode cX4_begin 0 = .ok (.aload_n 0, 1) := by decide +kernel
theorem dX4_begin_1 : decode cX4_begin 1 = .ok (.getfield 18, 3) := by decide +kernel
theorem dX4_begin_4 : decode cX4_begin 4 = .ok (.aload_n 0, 1) := by decide +kernel
theorem dX4_begin_5 : decode cX4_begin 5 = .ok (.getfield 40, 3) := by decide +kernel
theorem dX4_begin_8 : decode cX4_begin 8 = .ok (.bipush 32, 2) := by decide +kernel
theorem dX4_begin_10 : decode cX4_begin 10 = .ok (.irem, 1) := by decide +kernel
theorem dX4_begin_11 : decode cX4_begin 11 = .ok (.iload_n 1, 1) := by decide +kernel
theorem dX4_begin_12 : decode cX4_begin 12 = .ok (.iastore, 1) := by decide +kernel
theorem dX4_begin_13 : decode cX4_begin 13 = .ok (.aload_n 0, 1) := by decide +kernel
theorem dX4_begin_14 : decode cX4_begin 14 = .ok (.dup, 1) := by decide +kernel
theorem dX4_begin_15 : decode cX4_begin 15 = .ok (.getfield 40, 3) := by decide +kernel
theorem dX4_begin_18 : decode cX4_begin 18 = .ok (.iconst 1, 1) := by decide +kernel
theorem dX4_begin_19 : decode cX4_begin 19 = .ok (.iadd, 1) := by decide +kernel
theorem dX4_begin_20 : decode cX4_begin 20 = .ok (.putfield 40, 3) := by decide +kernel
theorem dX4_begin_23 : decode cX4_begin 23 = .ok (.aload_n 0, 1) := by decide +kernel
theorem dX4_begin_24 : decode cX4_begin 24 = .ok (.iconst 0, 1) := by decide +kernel
theorem dX4_begin_25 : decode cX4_begin 25 = .ok (.putfield 30, 3) := by decide +kernel
theorem dX4_begin_28 : decode cX4_begin 28 = .ok (.aload_n 0, 1) := by decide +kernel
theorem dX4_begin_29 : decode cX4_begin 29 = .ok (.iconst 0, 1) := by decide +kernel
theorem dX4_begin_30 : decode cX4_begin 30 = .ok (.putfield 34, 3) := by decide +kernel
theorem dX4_begin_33 : decode cX4_begin 33 = .ok (.return_, 1) := by decide +kernel
theorem dX4_loadWave_0 : decode cX4_loadWave 0 = .ok (.iconst 0, 1) := by decide +kernel
theorem dX4_loadWave_1 : decode cX4_loadWave 1 = .ok (.istore_n 3, 1) := by decide +kernel
theorem dX4_loadWave_2 : decode cX4_loadWave 2 = .ok (.iload_n 3, 1) := by decide +kernel
theorem dX4_loadWave_3 : decode cX4_loadWave 3 = .ok (.aload_n 1, 1) := by decide +kernel
theorem dX4_loadWave_4 : decode cX4_loadWave 4 = .ok (.getfield 43, 3) := by decide +kernel
theorem dX4_loadWave_7 : decode cX4_loadWave 7 = .ok (.if_icmp .ge 21, 3) := by decide +kernel
theorem dX4_loadWave_10 : decode cX4_loadWave 10 = .ok (.aload_n 0, 1) := by decide +kernel
theorem dX4_loadWave_11 : decode cX4_loadWave 11 = .ok (.getfield 21, 3) := by decide +kernel
theorem dX4_loadWave_14 : decode cX4_loadWave 14 = .ok (.iload_n 3, 1) := by decide +kernel
theorem dX4_loadWave_15 : decode cX4_loadWave 15 = .ok (.aload_n 1, 1) := by decide +kernel
theorem dX4_loadWave_16 : decode cX4_loadWave 16 = .ok (.iload_n 2, 1) := by decide +kernel
theorem dX4_loadWave_17 : decode cX4_loadWave 17 = .ok (.iload_n 3, 1) := by decide +kernel
theorem dX4_loadWave_18 : decode cX4_loadWave 18 = .ok (.invokevirtual 46, 3) := by decide +kernel
theorem dX4_loadWave_21 : decode cX4_loadWave 21 = .ok (.iastore, 1) := by decide +kernel
theorem dX4_loadWave_22 : decode cX4_loadWave 22 = .ok (.iinc 3 1, 3) := by decide +kernel
theorem dX4_loadWave_25 : decode cX4_loadWave 25 = .ok (.goto (-23), 3) := by decide +kernel
theorem dX4_loadWave_28 : decode cX4_loadWave 28 = .ok (.return_, 1) := by decide +kernel
theorem dX4_putAsItIs_0 : decode cX4_putAsItIs 0 = .ok (.aload_n 0, 1) := by decide +kernel
theorem dX4_putAsItIs_1 : decode cX4_putAsItIs 1 = .ok (.iconst 0, 1) := by decide +kernel
theorem dX4_putAsItIs_2 : decode cX4_putAsItIs 2 = .ok (.iload_n 1, 1) := by decide +kernel
theorem dX4_putAsItIs_3 : decode cX4_putAsItIs 3 = .ok (.invokevirtual 50, 3) := by decide +kernel
theorem dX4_putAsItIs_6 : decode cX4_putAsItIs 6 = .ok (.return_, 1) := by decide +kernel
theorem dX4_putCompressed_0 : decode cX4_putCompressed 0 = .ok (.aload_n 0, 1) := by decide +kernel
theorem dX4_putCompressed_1 : decode cX4_putCompressed 1 = .ok (.iload_n 1, 1) := by decide +kernel
theorem dX4_putCompressed_2 : decode cX4_putCompressed 2 = .ok (.iconst 2, 1) := by decide +kernel
theorem dX4_putCompressed_3 : decode cX4_putCompressed 3 = .ok (.idiv, 1) := by decide +kernel
theorem dX4_putCompressed_4 : decode cX4_putCompressed 4 = .ok (.iconst 1, 1) := by decide +kernel
theorem dX4_putCompressed_5 : decode cX4_putCompressed 5 = .ok (.invokevirtual 54, 3) := by decide +kernel
theorem dX4_putCompressed_8 : decode cX4_putCompressed 8 = .ok (.istore_n 2, 1) := by decide +kernel
theorem dX4_putCompressed_9 : decode cX4_putCompressed 9 = .ok (.iconst 0, 1) := by decide +kernel
theorem dX4_putCompressed_10 : decode cX4_putCompressed 10 = .ok (.istore_n 3, 1) := by decide +kernel
theorem dX4_putCompressed_11 : decode cX4_putCompressed 11 = .ok (.iload_n 3, 1) := by decide +kernel
theorem dX4_putCompressed_12 : decode cX4_putCompressed 12 = .ok (.iload_n 2, 1) := by decide +kernel
theorem dX4_putCompressed_13 : decode cX4_putCompressed 13 = .ok (.if_icmp .ge 36, 3) := by decide +kernel
theorem dX4_putCompressed_16 : decode cX4_putCompressed 16 = .ok (.aload_n 0, 1) := by decide +kernel
theorem dX4_putCompressed_17 : decode cX4_putCompressed 17 = .ok (.aload_n 0, 1) := by decide +kernel
theorem dX4_putCompressed_18 : decode cX4_putCompressed 18 = .ok (.getfield 21, 3) := by decide +kernel
theorem dX4_putCompressed_21 : decode cX4_putCompressed 21 = .ok (.iload_n 3, 1) := by decide +kernel
theorem dX4_putCompressed_22 : decode cX4_putCompressed 22 = .ok (.iaload, 1) := by decide +kernel
theorem dX4_putCompressed_23 : decode cX4_putCompressed 23 = .ok (.iload_n 2, 1) := by decide +kernel
theorem dX4_putCompressed_24 : decode cX4_putCompressed 24 = .ok (.iload_n 3, 1) := by decide +kernel
theorem dX4_putCompressed_25 : decode cX4_putCompressed 25 = .ok (.isub, 1) := by decide +kernel
theorem dX4_putCompressed_26 : decode cX4_putCompressed 26 = .ok (.imul, 1) := by decide +kernel
theorem dX4_putCompressed_27 : decode cX4_putCompressed 27 = .ok (.aload_n 0, 1) := by decide +kernel
theorem dX4_putCompressed_28 : decode cX4_putCompressed 28 = .ok (.getfield 21, 3) := by decide +kernel
theorem dX4_putCompressed_31 : decode cX4_putCompressed 31 = .ok (.iload_n 3, 1) := by decide +kernel
theorem dX4_putCompressed_32 : decode cX4_putCompressed 32 = .ok (.iload_n 2, 1) := by decide +kernel
theorem dX4_putCompressed_33 : decode cX4_putCompressed 33 = .ok (.iadd, 1) := by decide +kernel
theorem dX4_putCompressed_34 : decode cX4_putCompressed 34 = .ok (.iaload, 1) := by decide +kernel
theorem dX4_putCompressed_35 : decode cX4_putCompressed 35 = .ok (.iload_n 3, 1) := by decide +kernel
theorem dX4_putCompressed_36 : decode cX4_putCompressed 36 = .ok (.imul, 1) := by decide +kernel
theorem dX4_putCompressed_37 : decode cX4_putCompressed 37 = .ok (.iadd, 1) := by decide +kernel
theorem dX4_putCompressed_38 : decode cX4_putCompressed 38 = .ok (.iload_n 2, 1) := by decide +kernel
theorem dX4_putCompressed_39 : decode cX4_putCompressed 39 = .ok (.idiv, 1) := by decide +kernel
theorem dX4_putCompressed_40 : decode cX4_putCompressed 40 = .ok (.invokevirtual 58, 3) := by decide +kernel
theorem dX4_putCompressed_43 : decode cX4_putCompressed 43 = .ok (.iinc 3 1, 3) := by decide +kernel
theorem dX4_putCompressed_46 : decode cX4_putCompressed 46 = .ok (.goto (-35), 3) := by decide +kernel
theorem dX4_putCompressed_49 : decode cX4_putCompressed 49 = .ok (.aload_n 0, 1) := by decide +kernel
theorem dX4_putCompressed_50 : decode cX4_putCompressed 50 = .ok (.iconst 2, 1) := by decide +kernel
theorem dX4_putCompressed_51 : decode cX4_putCompressed 51 = .ok (.iload_n 2, 1) := by decide +kernel
theorem dX4_putCompressed_52 : decode cX4_putCompressed 52 = .ok (.imul, 1) := by decide +kernel
theorem dX4_putCompressed_53 : decode cX4_putCompressed 53 = .ok (.iload_n 1, 1) := by decide +kernel
theorem dX4_putCompressed_54 : decode cX4_putCompressed 54 = .ok (.invokevirtual 50, 3) := by decide +kernel
theorem dX4_putCompressed_57 : decode cX4_putCompressed 57 = .ok (.return_, 1) := by decide +kernel
theorem dX4_putStretched_0 : decode cX4_putStretched 0 = .ok (.aload_n 0, 1) := by decide +kernel
theorem dX4_putStretched_1 : decode cX4_putStretched 1 = .ok (.iload_n 1, 1) := by decide +kernel
theorem dX4_putStretched_2 : decode cX4_putStretched 2 = .ok (.iconst 2, 1) := by decide +kernel
theorem dX4_putStretched_3 : decode cX4_putStretched 3 = .ok (.idiv, 1) := by decide +kernel
theorem dX4_putStretched_4 : decode cX4_putStretched 4 = .ok (.iconst 1, 1) := by decide +kernel
theorem dX4_putStretched_5 : decode cX4_putStretched 5 = .ok (.invokevirtual 54, 3) := by decide +kernel
theorem dX4_putStretched_8 : decode cX4_putStretched 8 = .ok (.istore_n 2, 1) := by decide +kernel
theorem dX4_putStretched_9 : decode cX4_putStretched 9 = .ok (.aload_n 0, 1) := by decide +kernel
theorem dX4_putStretched_10 : decode cX4_putStretched 10 = .ok (.iconst 0, 1) := by decide +kernel
theorem dX4_putStretched_11 : decode cX4_putStretched 11 = .ok (.iload_n 2, 1) := by decide +kernel
theorem dX4_putStretched_12 : decode cX4_putStretched 12 = .ok (.invokevirtual 50, 3) := by decide +kernel
theorem dX4_putStretched_15 : decode cX4_putStretched 15 = .ok (.iconst 0, 1) := by decide +kernel
theorem dX4_putStretched_16 : decode cX4_putStretched 16 = .ok (.istore_n 3, 1) := by decide +kernel
theorem dX4_putStretched_17 : decode cX4_putStretched 17 = .ok (.iload_n 3, 1) := by decide +kernel
theorem dX4_putStretched_18 : decode cX4_putStretched 18 = .ok (.iload_n 2, 1) := by decide +kernel
theorem dX4_putStretched_19 : decode cX4_putStretched 19 = .ok (.if_icmp .ge 36, 3) := by decide +kernel
theorem dX4_putStretched_22 : decode cX4_putStretched 22 = .ok (.aload_n 0, 1) := by decide +kernel
theorem dX4_putStretched_23 : decode cX4_putStretched 23 = .ok (.aload_n 0, 1) := by decide +kernel
theorem dX4_putStretched_24 : decode cX4_putStretched 24 = .ok (.getfield 21, 3) := by decide +kernel
theorem dX4_putStretched_27 : decode cX4_putStretched 27 = .ok (.iload_n 3, 1) := by decide +kernel
theorem dX4_putStretched_28 : decode cX4_putStretched 28 = .ok (.iload_n 2, 1) := by decide +kernel
theorem dX4_putStretched_29 : decode cX4_putStretched 29 = .ok (.iadd, 1) := by decide +kernel
theorem dX4_putStretched_30 : decode cX4_putStretched 30 = .ok (.iaload, 1) := by decide +kernel
theorem dX4_putStretched_31 : decode cX4_putStretched 31 = .ok (.iload_n 2, 1) := by decide +kernel
theorem dX4_putStretched_32 : decode cX4_putStretched 32 = .ok (.iload_n 3, 1) := by decide +kernel
theorem dX4_putStretched_33 : decode cX4_putStretched 33 = .ok (.isub, 1) := by decide +kernel
theorem dX4_putStretched_34 : decode cX4_putStretched 34 = .ok (.imul, 1) := by decide +kernel
theorem dX4_putStretched_35 : decode cX4_putStretched 35 = .ok (.aload_n 0, 1) := by decide +kernel
theorem dX4_putStretched_36 : decode cX4_putStretched 36 = .ok (.getfield 21, 3) := by decide +kernel
theorem dX4_putStretched_39 : decode cX4_putStretched 39 = .ok (.iload_n 3, 1) := by decide +kernel
theorem dX4_putStretched_40 : decode cX4_putStretched 40 = .ok (.iaload, 1) := by decide +kernel
theorem dX4_putStretched_41 : decode cX4_putStretched 41 = .ok (.iload_n 3, 1) := by decide +kernel
theorem dX4_putStretched_42 : decode cX4_putStretched 42 = .ok (.imul, 1) := by decide +kernel
theorem dX4_putStretched_43 : decode cX4_putStretched 43 = .ok (.iadd, 1) := by decide +kernel
theorem dX4_putStretched_44 : decode cX4_putStretched 44 = .ok (.iload_n 2, 1) := by decide +kernel
theorem dX4_putStretched_45 : decode cX4_putStretched 45 = .ok (.idiv, 1) := by decide +kernel
theorem dX4_putStretched_46 : decode cX4_putStretched 46 = .ok (.invokevirtual 58, 3) := by decide +kernel
theorem dX4_putStretched_49 : decode cX4_putStretched 49 = .ok (.iinc 3 1, 3) := by decide +kernel
theorem dX4_putStretched_52 : decode cX4_putStretched 52 = .ok (.goto (-35), 3) := by decide +kernel
theorem dX4_putStretched_55 : decode cX4_putStretched 55 = .ok (.aload_n 0, 1) := by decide +kernel
theorem dX4_putStretched_56 : decode cX4_putStretched 56 = .ok (.iload_n 2, 1) := by decide +kernel
theorem dX4_putStretched_57 : decode cX4_putStretched 57 = .ok (.iload_n 1, 1) := by decide +kernel
theorem dX4_putStretched_58 : decode cX4_putStretched 58 = .ok (.invokevirtual 50, 3) := by decide +kernel
theorem dX4_putStretched_61 : decode cX4_putStretched 61 = .ok (.return_, 1) := by decide +kernel
theorem dX4_putConcealed_0 : decode cX4_putConcealed 0 = .ok (.aload_n 0, 1) := by decide +kernel
theorem dX4_putConcealed_1 : decode cX4_putConcealed 1 = .ok (.getfield 37, 3) := by decide +kernel
theorem dX4_putConcealed_4 : decode cX4_putConcealed 4 = .ok (.bipush 32, 2) := by decide +kernel
theorem dX4_putConcealed_6 : decode cX4_putConcealed 6 = .ok (.invokestatic 62, 3) := by decide +kernel
theorem dX4_putConcealed_9 : decode cX4_putConcealed 9 = .ok (.istore_n 3, 1) := by decide +kernel
theorem dX4_putConcealed_10 : decode cX4_putConcealed 10 = .ok (.iconst 0, 1) := by decide +kernel
theorem dX4_putConcealed_11 : decode cX4_putConcealed 11 = .ok (.istore 4, 2) := by decide +kernel
theorem dX4_putConcealed_13 : decode cX4_putConcealed 13 = .ok (.iload 4, 2) := by decide +kernel
theorem dX4_putConcealed_15 : decode cX4_putConcealed 15 = .ok (.iload_n 3, 1) := by decide +kernel
theorem dX4_putConcealed_16 : decode cX4_putConcealed 16 = .ok (.if_icmp .ge 24, 3) := by decide +kernel
theorem dX4_putConcealed_19 : decode cX4_putConcealed 19 = .ok (.aload_n 0, 1) := by decide +kernel
theorem dX4_putConcealed_20 : decode cX4_putConcealed 20 = .ok (.getfield 21, 3) := by decide +kernel
theorem dX4_putConcealed_23 : decode cX4_putConcealed 23 = .ok (.iload 4, 2) := by decide +kernel
theorem dX4_putConcealed_25 : decode cX4_putConcealed 25 = .ok (.aload_n 0, 1) := by decide +kernel
theorem dX4_putConcealed_26 : decode cX4_putConcealed 26 = .ok (.iload 4, 2) := by decide +kernel
theorem dX4_putConcealed_28 : decode cX4_putConcealed 28 = .ok (.iconst 1, 1) := by decide +kernel
theorem dX4_putConcealed_29 : decode cX4_putConcealed 29 = .ok (.iadd, 1) := by decide +kernel
theorem dX4_putConcealed_30 : decode cX4_putConcealed 30 = .ok (.invokevirtual 67, 3) := by decide +kernel
theorem dX4_putConcealed_33 : decode cX4_putConcealed 33 = .ok (.iastore, 1) := by decide +kernel
theorem dX4_putConcealed_34 : decode cX4_putConcealed 34 = .ok (.iinc 4 1, 3) := by decide +kernel
theorem dX4_putConcealed_37 : decode cX4_putConcealed 37 = .ok (.goto (-24), 3) := by decide +kernel
theorem dX4_putConcealed_40 : decode cX4_putConcealed 40 = .ok (.iload_n 3, 1) := by decide +kernel
theorem dX4_putConcealed_41 : decode cX4_putConcealed 41 = .ok (.iconst 4, 1) := by decide +kernel
theorem dX4_putConcealed_42 : decode cX4_putConcealed 42 = .ok (.if_icmp .ge 7, 3) := by decide +kernel
theorem dX4_putConcealed_45 : decode cX4_putConcealed 45 = .ok (.iconst 0, 1) := by decide +kernel
theorem dX4_putConcealed_46 : decode cX4_putConcealed 46 = .ok (.goto 11, 3) := by decide +kernel
theorem dX4_putConcealed_49 : decode cX4_putConcealed 49 = .ok (.aload_n 0, 1) := by decide +kernel
theorem dX4_putConcealed_50 : decode cX4_putConcealed 50 = .ok (.iload_n 3, 1) := by decide +kernel
theorem dX4_putConcealed_51 : decode cX4_putConcealed 51 = .ok (.iconst 2, 1) := by decide +kernel
theorem dX4_putConcealed_52 : decode cX4_putConcealed 52 = .ok (.idiv, 1) := by decide +kernel
theorem dX4_putConcealed_53 : decode cX4_putConcealed 53 = .ok (.iconst 0, 1) := by decide +kernel
theorem dX4_putConcealed_54 : decode cX4_putConcealed 54 = .ok (.invokevirtual 54, 3) := by decide +kernel
theorem dX4_putConcealed_57 : decode cX4_putConcealed 57 = .ok (.istore 4, 2) := by decide +kernel
theorem dX4_putConcealed_59 : decode cX4_putConcealed 59 = .ok (.iconst 0, 1) := by decide +kernel
theorem dX4_putConcealed_60 : decode cX4_putConcealed 60 = .ok (.istore 5, 2) := by decide +kernel
theorem dX4_putConcealed_62 : decode cX4_putConcealed 62 = .ok (.iload 5, 2) := by decide +kernel
theorem dX4_putConcealed_64 : decode cX4_putConcealed 64 = .ok (.iload_n 1, 1) := by decide +kernel
theorem dX4_putConcealed_65 : decode cX4_putConcealed 65 = .ok (.if_icmp .ge 41, 3) := by decide +kernel
theorem dX4_putConcealed_68 : decode cX4_putConcealed 68 = .ok (.aload_n 0, 1) := by decide +kernel
theorem dX4_putConcealed_69 : decode cX4_putConcealed 69 = .ok (.iload 4, 2) := by decide +kernel
theorem dX4_putConcealed_71 : decode cX4_putConcealed 71 = .ok (.ifCond .ne 7, 3) := by decide +kernel
theorem dX4_putConcealed_74 : decode cX4_putConcealed 74 = .ok (.iconst 0, 1) := by decide +kernel
theorem dX4_putConcealed_75 : decode cX4_putConcealed 75 = .ok (.goto 22, 3) := by decide +kernel
theorem dX4_putConcealed_78 : decode cX4_putConcealed 78 = .ok (.aload_n 0, 1) := by decide +kernel
theorem dX4_putConcealed_79 : decode cX4_putConcealed 79 = .ok (.getfield 21, 3) := by decide +kernel
theorem dX4_putConcealed_82 : decode cX4_putConcealed 82 = .ok (.iload 4, 2) := by decide +kernel
theorem dX4_putConcealed_84 : decode cX4_putConcealed 84 = .ok (.iconst 1, 1) := by decide +kernel
theorem dX4_putConcealed_85 : decode cX4_putConcealed 85 = .ok (.isub, 1) := by decide +kernel
theorem dX4_putConcealed_86 : decode cX4_putConcealed 86 = .ok (.iload 5, 2) := by decide +kernel
theorem dX4_putConcealed_88 : decode cX4_putConcealed 88 = .ok (.iload 4, 2) := by decide +kernel
theorem dX4_putConcealed_90 : decode cX4_putConcealed 90 = .ok (.irem, 1) := by decide +kernel
theorem dX4_putConcealed_91 : decode cX4_putConcealed 91 = .ok (.isub, 1) := by decide +kernel
theorem dX4_putConcealed_92 : decode cX4_putConcealed 92 = .ok (.iaload, 1) := by decide +kernel
theorem dX4_putConcealed_93 : decode cX4_putConcealed 93 = .ok (.iload_n 2, 1) := by decide +kernel
theorem dX4_putConcealed_94 : decode cX4_putConcealed 94 = .ok (.invokestatic 71, 3) := by decide +kernel
theorem dX4_putConcealed_97 : decode cX4_putConcealed 97 = .ok (.invokevirtual 58, 3) := by decide +kernel
theorem dX4_putConcealed_100 : decode cX4_putConcealed 100 = .ok (.iinc 5 1, 3) := by decide +kernel
theorem dX4_putConcealed_103 : decode cX4_putConcealed 103 = .ok (.goto (-41), 3) := by decide +kernel
theorem dX4_putConcealed_106 : decode cX4_putConcealed 106 = .ok (.return_, 1) := by decide +kernel
theorem dX4_putSource_0 : decode cX4_putSource 0 = .ok (.iload_n 1, 1) := by decide +kernel
theorem dX4_putSource_1 : decode cX4_putSource 1 = .ok (.istore_n 3, 1) := by decide +kernel
theorem dX4_putSource_2 : decode cX4_putSource 2 = .ok (.iload_n 3, 1) := by decide +kernel
theorem dX4_putSource_3 : decode cX4_putSource 3 = .ok (.iload_n 2, 1) := by decide +kernel
theorem dX4_putSource_4 : decode cX4_putSource 4 = .ok (.if_icmp .ge 19, 3) := by decide +kernel
theorem dX4_putSource_7 : decode cX4_putSource 7 = .ok (.aload_n 0, 1) := by decide +kernel
theorem dX4_putSource_8 : decode cX4_putSource 8 = .ok (.aload_n 0, 1) := by decide +kernel
theorem dX4_putSource_9 : decode cX4_putSource 9 = .ok (.getfield 21, 3) := by decide +kernel
theorem dX4_putSource_12 : decode cX4_putSource 12 = .ok (.iload_n 3, 1) := by decide +kernel
theorem dX4_putSource_13 : decode cX4_putSource 13 = .ok (.iaload, 1) := by decide +kernel
theorem dX4_putSource_14 : decode cX4_putSource 14 = .ok (.invokevirtual 58, 3) := by decide +kernel
theorem dX4_putSource_17 : decode cX4_putSource 17 = .ok (.iinc 3 1, 3) := by decide +kernel
theorem dX4_putSource_20 : decode cX4_putSource 20 = .ok (.goto (-18), 3) := by decide +kernel
theorem dX4_putSource_23 : decode cX4_putSource 23 = .ok (.return_, 1) := by decide +kernel
theorem dX4_put_0 : decode cX4_put 0 = .ok (.aload_n 0, 1) := by decide +kernel
theorem dX4_put_1 : decode cX4_put 1 = .ok (.getfield 30, 3) := by decide +kernel
theorem dX4_put_4 : decode cX4_put 4 = .ok (.bipush 24, 2) := by decide +kernel
theorem dX4_put_6 : decode cX4_put 6 = .ok (.if_icmp .ge 23, 3) := by decide +kernel
theorem dX4_put_9 : decode cX4_put 9 = .ok (.aload_n 0, 1) := by decide +kernel
theorem dX4_put_10 : decode cX4_put 10 = .ok (.getfield 11, 3) := by decide +kernel
theorem dX4_put_13 : decode cX4_put 13 = .ok (.aload_n 0, 1) := by decide +kernel
theorem dX4_put_14 : decode cX4_put 14 = .ok (.getfield 30, 3) := by decide +kernel
theorem dX4_put_17 : decode cX4_put 17 = .ok (.iload_n 1, 1) := by decide +kernel
theorem dX4_put_18 : decode cX4_put 18 = .ok (.iastore, 1) := by decide +kernel
theorem dX4_put_19 : decode cX4_put 19 = .ok (.aload_n 0, 1) := by decide +kernel
theorem dX4_put_20 : decode cX4_put 20 = .ok (.dup, 1) := by decide +kernel
theorem dX4_put_21 : decode cX4_put 21 = .ok (.getfield 30, 3) := by decide +kernel
theorem dX4_put_24 : decode cX4_put 24 = .ok (.iconst 1, 1) := by decide +kernel
theorem dX4_put_25 : decode cX4_put 25 = .ok (.iadd, 1) := by decide +kernel
theorem dX4_put_26 : decode cX4_put 26 = .ok (.putfield 30, 3) := by decide +kernel
theorem dX4_put_29 : decode cX4_put 29 = .ok (.return_, 1) := by decide +kernel
theorem dX4_bestLag_0 : decode cX4_bestLag 0 = .ok (.iconst 2, 1) := by decide +kernel
theorem dX4_bestLag_1 : decode cX4_bestLag 1 = .ok (.istore_n 3, 1) := by decide +kernel
theorem dX4_bestLag_2 : decode cX4_bestLag 2 = .ok (.aload_n 0, 1) := by decide +kernel
theorem dX4_bestLag_3 : decode cX4_bestLag 3 = .ok (.iload_n 3, 1) := by decide +kernel
theorem dX4_bestLag_4 : decode cX4_bestLag 4 = .ok (.invokevirtual 74, 3) := by decide +kernel
theorem dX4_bestLag_7 : decode cX4_bestLag 7 = .ok (.istore 4, 2) := by decide +kernel
theorem dX4_bestLag_9 : decode cX4_bestLag 9 = .ok (.iconst 3, 1) := by decide +kernel
theorem dX4_bestLag_10 : decode cX4_bestLag 10 = .ok (.istore 5, 2) := by decide +kernel
theorem dX4_bestLag_12 : decode cX4_bestLag 12 = .ok (.iload 5, 2) := by decide +kernel
theorem dX4_bestLag_14 : decode cX4_bestLag 14 = .ok (.iload_n 1, 1) := by decide +kernel
theorem dX4_bestLag_15 : decode cX4_bestLag 15 = .ok (.if_icmp .gt 55, 3) := by decide +kernel
theorem dX4_bestLag_18 : decode cX4_bestLag 18 = .ok (.aload_n 0, 1) := by decide +kernel
theorem dX4_bestLag_19 : decode cX4_bestLag 19 = .ok (.iload 5, 2) := by decide +kernel
theorem dX4_bestLag_21 : decode cX4_bestLag 21 = .ok (.invokevirtual 74, 3) := by decide +kernel
theorem dX4_bestLag_24 : decode cX4_bestLag 24 = .ok (.istore 6, 2) := by decide +kernel
theorem dX4_bestLag_26 : decode cX4_bestLag 26 = .ok (.iload_n 2, 1) := by decide +kernel
theorem dX4_bestLag_27 : decode cX4_bestLag 27 = .ok (.ifCond .eq 18, 3) := by decide +kernel
theorem dX4_bestLag_30 : decode cX4_bestLag 30 = .ok (.iload 6, 2) := by decide +kernel
theorem dX4_bestLag_32 : decode cX4_bestLag 32 = .ok (.iload_n 3, 1) := by decide +kernel
theorem dX4_bestLag_33 : decode cX4_bestLag 33 = .ok (.imul, 1) := by decide +kernel
theorem dX4_bestLag_34 : decode cX4_bestLag 34 = .ok (.iload 4, 2) := by decide +kernel
theorem dX4_bestLag_36 : decode cX4_bestLag 36 = .ok (.iload 5, 2) := by decide +kernel
theorem dX4_bestLag_38 : decode cX4_bestLag 38 = .ok (.imul, 1) := by decide +kernel
theorem dX4_bestLag_39 : decode cX4_bestLag 39 = .ok (.if_icmp .ge 25, 3) := by decide +kernel
theorem dX4_bestLag_42 : decode cX4_bestLag 42 = .ok (.goto 15, 3) := by decide +kernel
theorem dX4_bestLag_45 : decode cX4_bestLag 45 = .ok (.iload 6, 2) := by decide +kernel
theorem dX4_bestLag_47 : decode cX4_bestLag 47 = .ok (.iload 5, 2) := by decide +kernel
theorem dX4_bestLag_49 : decode cX4_bestLag 49 = .ok (.idiv, 1) := by decide +kernel
theorem dX4_bestLag_50 : decode cX4_bestLag 50 = .ok (.iload 4, 2) := by decide +kernel
theorem dX4_bestLag_52 : decode cX4_bestLag 52 = .ok (.iload_n 3, 1) := by decide +kernel
theorem dX4_bestLag_53 : decode cX4_bestLag 53 = .ok (.idiv, 1) := by decide +kernel
theorem dX4_bestLag_54 : decode cX4_bestLag 54 = .ok (.if_icmp .ge 10, 3) := by decide +kernel
theorem dX4_bestLag_57 : decode cX4_bestLag 57 = .ok (.iload 5, 2) := by decide +kernel
theorem dX4_bestLag_59 : decode cX4_bestLag 59 = .ok (.istore_n 3, 1) := by decide +kernel
theorem dX4_bestLag_60 : decode cX4_bestLag 60 = .ok (.iload 6, 2) := by decide +kernel
theorem dX4_bestLag_62 : decode cX4_bestLag 62 = .ok (.istore 4, 2) := by decide +kernel
theorem dX4_bestLag_64 : decode cX4_bestLag 64 = .ok (.iinc 5 1, 3) := by decide +kernel
theorem dX4_bestLag_67 : decode cX4_bestLag 67 = .ok (.goto (-55), 3) := by decide +kernel
theorem dX4_bestLag_70 : decode cX4_bestLag 70 = .ok (.iload_n 3, 1) := by decide +kernel
theorem dX4_bestLag_71 : decode cX4_bestLag 71 = .ok (.ireturn, 1) := by decide +kernel
theorem dX4_differences_0 : decode cX4_differences 0 = .ok (.iconst 0, 1) := by decide +kernel
theorem dX4_differences_1 : decode cX4_differences 1 = .ok (.istore_n 2, 1) := by decide +kernel
theorem dX4_differences_2 : decode cX4_differences 2 = .ok (.iconst 0, 1) := by decide +kernel
theorem dX4_differences_3 : decode cX4_differences 3 = .ok (.istore_n 3, 1) := by decide +kernel
theorem dX4_differences_4 : decode cX4_differences 4 = .ok (.iload_n 3, 1) := by decide +kernel
theorem dX4_differences_5 : decode cX4_differences 5 = .ok (.iload_n 1, 1) := by decide +kernel
theorem dX4_differences_6 : decode cX4_differences 6 = .ok (.if_icmp .ge 30, 3) := by decide +kernel
theorem dX4_differences_9 : decode cX4_differences 9 = .ok (.iload_n 2, 1) := by decide +kernel
theorem dX4_differences_10 : decode cX4_differences 10 = .ok (.aload_n 0, 1) := by decide +kernel
theorem dX4_differences_11 : decode cX4_differences 11 = .ok (.getfield 21, 3) := by decide +kernel
theorem dX4_differences_14 : decode cX4_differences 14 = .ok (.iload_n 3, 1) := by decide +kernel
theorem dX4_differences_15 : decode cX4_differences 15 = .ok (.iaload, 1) := by decide +kernel
theorem dX4_differences_16 : decode cX4_differences 16 = .ok (.aload_n 0, 1) := by decide +kernel
theorem dX4_differences_17 : decode cX4_differences 17 = .ok (.getfield 21, 3) := by decide +kernel
theorem dX4_differences_20 : decode cX4_differences 20 = .ok (.iload_n 3, 1) := by decide +kernel
theorem dX4_differences_21 : decode cX4_differences 21 = .ok (.iload_n 1, 1) := by decide +kernel
theorem dX4_differences_22 : decode cX4_differences 22 = .ok (.iadd, 1) := by decide +kernel
theorem dX4_differences_23 : decode cX4_differences 23 = .ok (.iaload, 1) := by decide +kernel
theorem dX4_differences_24 : decode cX4_differences 24 = .ok (.isub, 1) := by decide +kernel
theorem dX4_differences_25 : decode cX4_differences 25 = .ok (.invokestatic 77, 3) := by decide +kernel
theorem dX4_differences_28 : decode cX4_differences 28 = .ok (.iadd, 1) := by decide +kernel
theorem dX4_differences_29 : decode cX4_differences 29 = .ok (.istore_n 2, 1) := by decide +kernel
theorem dX4_differences_30 : decode cX4_differences 30 = .ok (.iinc 3 1, 3) := by decide +kernel
theorem dX4_differences_33 : decode cX4_differences 33 = .ok (.goto (-29), 3) := by decide +kernel
theorem dX4_differences_36 : decode cX4_differences 36 = .ok (.iload_n 2, 1) := by decide +kernel
theorem dX4_differences_37 : decode cX4_differences 37 = .ok (.ireturn, 1) := by decide +kernel
theorem dX4_faded_0 : decode cX4_faded 0 = .ok (.iload_n 0, 1) := by decide +kernel
theorem dX4_faded_1 : decode cX4_faded 1 = .ok (.istore_n 2, 1) := by decide +kernel
theorem dX4_faded_2 : decode cX4_faded 2 = .ok (.iconst 0, 1) := by decide +kernel
theorem dX4_faded_3 : decode cX4_faded 3 = .ok (.istore_n 3, 1) := by decide +kernel
theorem dX4_faded_4 : decode cX4_faded 4 = .ok (.iload_n 3, 1) := by decide +kernel
theorem dX4_faded_5 : decode cX4_faded 5 = .ok (.iload_n 1, 1) := by decide +kernel
theorem dX4_faded_6 : decode cX4_faded 6 = .ok (.if_icmp .ge 19, 3) := by decide +kernel
theorem dX4_faded_9 : decode cX4_faded 9 = .ok (.iload_n 2, 1) := by decide +kernel
theorem dX4_faded_10 : decode cX4_faded 10 = .ok (.ifCond .eq 15, 3) := by decide +kernel
theorem dX4_faded_13 : decode cX4_faded 13 = .ok (.iload_n 2, 1) := by decide +kernel
theorem dX4_faded_14 : decode cX4_faded 14 = .ok (.iconst 3, 1) := by decide +kernel
theorem dX4_faded_15 : decode cX4_faded 15 = .ok (.imul, 1) := by decide +kernel
theorem dX4_faded_16 : decode cX4_faded 16 = .ok (.iconst 4, 1) := by decide +kernel
theorem dX4_faded_17 : decode cX4_faded 17 = .ok (.idiv, 1) := by decide +kernel
theorem dX4_faded_18 : decode cX4_faded 18 = .ok (.istore_n 2, 1) := by decide +kernel
theorem dX4_faded_19 : decode cX4_faded 19 = .ok (.iinc 3 1, 3) := by decide +kernel
theorem dX4_faded_22 : decode cX4_faded 22 = .ok (.goto (-18), 3) := by decide +kernel
theorem dX4_faded_25 : decode cX4_faded 25 = .ok (.iload_n 2, 1) := by decide +kernel
theorem dX4_faded_26 : decode cX4_faded 26 = .ok (.ireturn, 1) := by decide +kernel
theorem dX5_init_0 : decode cX5_init 0 = .ok (.aload_n 0, 1) := by decide +kernel
theorem dX5_init_1 : decode cX5_init 1 = .ok (.invokespecial 3, 3) := by decide +kernel
theorem dX5_init_4 : decode cX5_init 4 = .ok (.aload_n 0, 1) := by decide +kernel
theorem dX5_init_5 : decode cX5_init 5 = .ok (.new 9, 3) := by decide +kernel
theorem dX5_init_8 : decode cX5_init 8 = .ok (.dup, 1) := by decide +kernel
theorem dX5_init_9 : decode cX5_init 9 = .ok (.invokespecial 11, 3) := by decide +kernel
theorem dX5_init_12 : decode cX5_init 12 = .ok (.putfield 12, 3) := by decide +kernel
theorem dX5_init_15 : decode cX5_init 15 = .ok (.aload_n 0, 1) := by decide +kernel
theorem dX5_init_16 : decode cX5_init 16 = .ok (.new 18, 3) := by decide +kernel
theorem dX5_init_19 : decode cX5_init 19 = .ok (.dup, 1) := by decide +kernel
theorem dX5_init_20 : decode cX5_init 20 = .ok (.invokespecial 20, 3) := by decide +kernel
theorem dX5_init_23 : decode cX5_init 23 = .ok (.putfield 21, 3) := by decide +kernel
theorem dX5_init_26 : decode cX5_init 26 = .ok (.aload_n 0, 1) := by decide +kernel
theorem dX5_init_27 : decode cX5_init 27 = .ok (.new 25, 3) := by decide +kernel
theorem dX5_init_30 : decode cX5_init 30 = .ok (.dup, 1) := by decide +kernel
theorem dX5_init_31 : decode cX5_init 31 = .ok (.invokespecial 27, 3) := by decide +kernel
theorem dX5_init_34 : decode cX5_init 34 = .ok (.putfield 28, 3) := by decide +kernel
theorem dX5_init_37 : decode cX5_init 37 = .ok (.aload_n 0, 1) := by decide +kernel
theorem dX5_init_38 : decode cX5_init 38 = .ok (.new 32, 3) := by decide +kernel
theorem dX5_init_41 : decode cX5_init 41 = .ok (.dup, 1) := by decide +kernel
theorem dX5_init_42 : decode cX5_init 42 = .ok (.invokespecial 34, 3) := by decide +kernel
theorem dX5_init_45 : decode cX5_init 45 = .ok (.putfield 35, 3) := by decide +kernel
theorem dX5_init_48 : decode cX5_init 48 = .ok (.aload_n 0, 1) := by decide +kernel
theorem dX5_init_49 : decode cX5_init 49 = .ok (.new 39, 3) := by decide +kernel
theorem dX5_init_52 : decode cX5_init 52 = .ok (.dup, 1) := by decide +kernel
theorem dX5_init_53 : decode cX5_init 53 = .ok (.invokespecial 41, 3) := by decide +kernel
theorem dX5_init_56 : decode cX5_init 56 = .ok (.putfield 42, 3) := by decide +kernel
theorem dX5_init_59 : decode cX5_init 59 = .ok (.aload_n 0, 1) := by decide +kernel
theorem dX5_init_60 : decode cX5_init 60 = .ok (.new 46, 3) := by decide +kernel
theorem dX5_init_63 : decode cX5_init 63 = .ok (.dup, 1) := by decide +kernel
theorem dX5_init_64 : decode cX5_init 64 = .ok (.invokespecial 48, 3) := by decide +kernel
theorem dX5_init_67 : decode cX5_init 67 = .ok (.putfield 49, 3) := by decide +kernel
theorem dX5_init_70 : decode cX5_init 70 = .ok (.return_, 1) := by decide +kernel
theorem dX5_copyFrom_0 : decode cX5_copyFrom 0 = .ok (.aload_n 0, 1) := by decide +kernel
theorem dX5_copyFrom_1 : decode cX5_copyFrom 1 = .ok (.getfield 12, 3) := by decide +kernel
theorem dX5_copyFrom_4 : decode cX5_copyFrom 4 = .ok (.aload_n 1, 1) := by decide +kernel
theorem dX5_copyFrom_5 : decode cX5_copyFrom 5 = .ok (.getfield 12, 3) := by decide +kernel
theorem dX5_copyFrom_8 : decode cX5_copyFrom 8 = .ok (.invokevirtual 53, 3) := by decide +kernel
theorem dX5_copyFrom_11 : decode cX5_copyFrom 11 = .ok (.aload_n 0, 1) := by decide +kernel
theorem dX5_copyFrom_12 : decode cX5_copyFrom 12 = .ok (.getfield 21, 3) := by decide +kernel
theorem dX5_copyFrom_15 : decode cX5_copyFrom 15 = .ok (.aload_n 1, 1) := by decide +kernel
theorem dX5_copyFrom_16 : decode cX5_copyFrom 16 = .ok (.getfield 21, 3) := by decide +kernel
theorem dX5_copyFrom_19 : decode cX5_copyFrom 19 = .ok (.invokevirtual 57, 3) := by decide +kernel
theorem dX5_copyFrom_22 : decode cX5_copyFrom 22 = .ok (.aload_n 0, 1) := by decide +kernel
theorem dX5_copyFrom_23 : decode cX5_copyFrom 23 = .ok (.getfield 28, 3) := by decide +kernel
theorem dX5_copyFrom_26 : decode cX5_copyFrom 26 = .ok (.aload_n 1, 1) := by decide +kernel
theorem dX5_copyFrom_27 : decode cX5_copyFrom 27 = .ok (.getfield 28, 3) := by decide +kernel
theorem dX5_copyFrom_30 : decode cX5_copyFrom 30 = .ok (.invokevirtual 60, 3) := by decide +kernel
theorem dX5_copyFrom_33 : decode cX5_copyFrom 33 = .ok (.aload_n 0, 1) := by decide +kernel
theorem dX5_copyFrom_34 : decode cX5_copyFrom 34 = .ok (.getfield 35, 3) := by decide +kernel
theorem dX5_copyFrom_37 : decode cX5_copyFrom 37 = .ok (.aload_n 1, 1) := by decide +kernel
theorem dX5_copyFrom_38 : decode cX5_copyFrom 38 = .ok (.getfield 35, 3) := by decide +kernel
theorem dX5_copyFrom_41 : decode cX5_copyFrom 41 = .ok (.invokevirtual 63, 3) := by decide +kernel
theorem dX5_copyFrom_44 : decode cX5_copyFrom 44 = .ok (.aload_n 0, 1) := by decide +kernel
theorem dX5_copyFrom_45 : decode cX5_copyFrom 45 = .ok (.getfield 42, 3) := by decide +kernel
theorem dX5_copyFrom_48 : decode cX5_copyFrom 48 = .ok (.aload_n 1, 1) := by decide +kernel
theorem dX5_copyFrom_49 : decode cX5_copyFrom 49 = .ok (.getfield 42, 3) := by decide +kernel
theorem dX5_copyFrom_52 : decode cX5_copyFrom 52 = .ok (.invokevirtual 66, 3) := by decide +kernel
theorem dX5_copyFrom_55 : decode cX5_copyFrom 55 = .ok (.aload_n 0, 1) := by decide +kernel
theorem dX5_copyFrom_56 : decode cX5_copyFrom 56 = .ok (.getfield 49, 3) := by decide +kernel
theorem dX5_copyFrom_59 : decode cX5_copyFrom 59 = .ok (.aload_n 1, 1) := by decide +kernel
theorem dX5_copyFrom_60 : decode cX5_copyFrom 60 = .ok (.getfield 49, 3) := by decide +kernel
theorem dX5_copyFrom_63 : decode cX5_copyFrom 63 = .ok (.invokevirtual 69, 3) := by decide +kernel
theorem dX5_copyFrom_66 : decode cX5_copyFrom 66 = .ok (.aload_n 0, 1) := by decide +kernel
theorem dX5_copyFrom_67 : decode cX5_copyFrom 67 = .ok (.aload_n 1, 1) := by decide +kernel
theorem dX5_copyFrom_68 : decode cX5_copyFrom 68 = .ok (.getfield 72, 3) := by decide +kernel
theorem dX5_copyFrom_71 : decode cX5_copyFrom 71 = .ok (.putfield 72, 3) := by decide +kernel
theorem dX5_copyFrom_74 : decode cX5_copyFrom 74 = .ok (.aload_n 0, 1) := by decide +kernel
theorem dX5_copyFrom_75 : decode cX5_copyFrom 75 = .ok (.aload_n 1, 1) := by decide +kernel
theorem dX5_copyFrom_76 : decode cX5_copyFrom 76 = .ok (.getfield 76, 3) := by decide +kernel
theorem dX5_copyFrom_79 : decode cX5_copyFrom 79 = .ok (.putfield 76, 3) := by decide +kernel
theorem dX5_copyFrom_82 : decode cX5_copyFrom 82 = .ok (.aload_n 0, 1) := by decide +kernel
theorem dX5_copyFrom_83 : decode cX5_copyFrom 83 = .ok (.aload_n 1, 1) := by decide +kernel
theorem dX5_copyFrom_84 : decode cX5_copyFrom 84 = .ok (.getfield 80, 3) := by decide +kernel
theorem dX5_copyFrom_87 : decode cX5_copyFrom 87 = .ok (.putfield 80, 3) := by decide +kernel
theorem dX5_copyFrom_90 : decode cX5_copyFrom 90 = .ok (.return_, 1) := by decide +kernel
theorem dX5_hasBegun_0 : decode cX5_hasBegun 0 = .ok (.aload_n 0, 1) := by decide +kernel
theorem dX5_hasBegun_1 : decode cX5_hasBegun 1 = .ok (.getfield 76, 3) := by decide +kernel
theorem dX5_hasBegun_4 : decode cX5_hasBegun 4 = .ok (.ifCond .ne 13, 3) := by decide +kernel
theorem dX5_hasBegun_7 : decode cX5_hasBegun 7 = .ok (.aload_n 0, 1) := by decide +kernel
theorem dX5_hasBegun_8 : decode cX5_hasBegun 8 = .ok (.getfield 49, 3) := by decide +kernel
theorem dX5_hasBegun_11 : decode cX5_hasBegun 11 = .ok (.getfield 83, 3) := by decide +kernel
theorem dX5_hasBegun_14 : decode cX5_hasBegun 14 = .ok (.ifCond .le 7, 3) := by decide +kernel
theorem dX5_hasBegun_17 : decode cX5_hasBegun 17 = .ok (.iconst 1, 1) := by decide +kernel
theorem dX5_hasBegun_18 : decode cX5_hasBegun 18 = .ok (.goto 4, 3) := by decide +kernel
theorem dX5_hasBegun_21 : decode cX5_hasBegun 21 = .ok (.iconst 0, 1) := by decide +kernel
theorem dX5_hasBegun_22 : decode cX5_hasBegun 22 = .ok (.ireturn, 1) := by decide +kernel
theorem dX5_targetNow_0 : decode cX5_targetNow 0 = .ok (.aload_n 0, 1) := by decide +kernel
theorem dX5_targetNow_1 : decode cX5_targetNow 1 = .ok (.getfield 28, 3) := by decide +kernel
theorem dX5_targetNow_4 : decode cX5_targetNow 4 = .ok (.aload_n 0, 1) := by decide +kernel
theorem dX5_targetNow_5 : decode cX5_targetNow 5 = .ok (.getfield 12, 3) := by decide +kernel
theorem dX5_targetNow_8 : decode cX5_targetNow 8 = .ok (.getfield 86, 3) := by decide +kernel
theorem dX5_targetNow_11 : decode cX5_targetNow 11 = .ok (.invokevirtual 89, 3) := by decide +kernel
theorem dX5_targetNow_14 : decode cX5_targetNow 14 = .ok (.aload_n 0, 1) := by decide +kernel
theorem dX5_targetNow_15 : decode cX5_targetNow 15 = .ok (.getfield 12, 3) := by decide +kernel
theorem dX5_targetNow_18 : decode cX5_targetNow 18 = .ok (.getfield 93, 3) := by decide +kernel
theorem dX5_targetNow_21 : decode cX5_targetNow 21 = .ok (.iadd, 1) := by decide +kernel
theorem dX5_targetNow_22 : decode cX5_targetNow 22 = .ok (.ireturn, 1) := by decide +kernel
theorem dX5_levelFrom_0 : decode cX5_levelFrom 0 = .ok (.aload_n 0, 1) := by decide +kernel
theorem dX5_levelFrom_1 : decode cX5_levelFrom 1 = .ok (.getfield 12, 3) := by decide +kernel
theorem dX5_levelFrom_4 : decode cX5_levelFrom 4 = .ok (.getfield 96, 3) := by decide +kernel
theorem dX5_levelFrom_7 : decode cX5_levelFrom 7 = .ok (.aload_n 0, 1) := by decide +kernel
theorem dX5_levelFrom_8 : decode cX5_levelFrom 8 = .ok (.getfield 21, 3) := by decide +kernel
theorem dX5_levelFrom_11 : decode cX5_levelFrom 11 = .ok (.aload_n 0, 1) := by decide +kernel
theorem dX5_levelFrom_12 : decode cX5_levelFrom 12 = .ok (.getfield 12, 3) := by decide +kernel
theorem dX5_levelFrom_15 : decode cX5_levelFrom 15 = .ok (.iload_n 1, 1) := by decide +kernel
theorem dX5_levelFrom_16 : decode cX5_levelFrom 16 = .ok (.invokevirtual 99, 3) := by decide +kernel
theorem dX5_levelFrom_19 : decode cX5_levelFrom 19 = .ok (.imul, 1) := by decide +kernel
theorem dX5_levelFrom_20 : decode cX5_levelFrom 20 = .ok (.ireturn, 1) := by decide +kernel
theorem dX5_acceptFrame_0 : decode cX5_acceptFrame 0 = .ok (.aload_n 0, 1) := by decide +kernel
theorem dX5_acceptFrame_1 : decode cX5_acceptFrame 1 = .ok (.getfield 21, 3) := by decide +kernel
theorem dX5_acceptFrame_4 : decode cX5_acceptFrame 4 = .ok (.aload_n 0, 1) := by decide +kernel
theorem dX5_acceptFrame_5 : decode cX5_acceptFrame 5 = .ok (.getfield 12, 3) := by decide +kernel
theorem dX5_acceptFrame_8 : decode cX5_acceptFrame 8 = .ok (.iload_n 1, 1) := by decide +kernel
theorem dX5_acceptFrame_9 : decode cX5_acceptFrame 9 = .ok (.invokevirtual 103, 3) := by decide +kernel
theorem dX5_acceptFrame_12 : decode cX5_acceptFrame 12 = .ok (.ifCond .eq 18, 3) := by decide +kernel
theorem dX5_acceptFrame_15 : decode cX5_acceptFrame 15 = .ok (.aload_n 0, 1) := by decide +kernel
theorem dX5_acceptFrame_16 : decode cX5_acceptFrame 16 = .ok (.getfield 42, 3) := by decide +kernel
theorem dX5_acceptFrame_19 : decode cX5_acceptFrame 19 = .ok (.dup, 1) := by decide +kernel
theorem dX5_acceptFrame_20 : decode cX5_acceptFrame 20 = .ok (.getfield 106, 3) := by decide +kernel
theorem dX5_acceptFrame_23 : decode cX5_acceptFrame 23 = .ok (.iconst 1, 1) := by decide +kernel
theorem dX5_acceptFrame_24 : decode cX5_acceptFrame 24 = .ok (.iadd, 1) := by decide +kernel
theorem dX5_acceptFrame_25 : decode cX5_acceptFrame 25 = .ok (.putfield 106, 3) := by decide +kernel
theorem dX5_acceptFrame_28 : decode cX5_acceptFrame 28 = .ok (.iconst 0, 1) := by decide +kernel
theorem dX5_acceptFrame_29 : decode cX5_acceptFrame 29 = .ok (.ireturn, 1) := by decide +kernel
theorem dX5_acceptFrame_30 : decode cX5_acceptFrame 30 = .ok (.aload_n 0, 1) := by decide +kernel
theorem dX5_acceptFrame_31 : decode cX5_acceptFrame 31 = .ok (.invokevirtual 109, 3) := by decide +kernel
theorem dX5_acceptFrame_34 : decode cX5_acceptFrame 34 = .ok (.aload_n 0, 1) := by decide +kernel
theorem dX5_acceptFrame_35 : decode cX5_acceptFrame 35 = .ok (.getfield 28, 3) := by decide +kernel
theorem dX5_acceptFrame_38 : decode cX5_acceptFrame 38 = .ok (.aload_n 0, 1) := by decide +kernel
theorem dX5_acceptFrame_39 : decode cX5_acceptFrame 39 = .ok (.getfield 72, 3) := by decide +kernel
theorem dX5_acceptFrame_42 : decode cX5_acceptFrame 42 = .ok (.iload_n 1, 1) := by decide +kernel
theorem dX5_acceptFrame_43 : decode cX5_acceptFrame 43 = .ok (.aload_n 0, 1) := by decide +kernel
theorem dX5_acceptFrame_44 : decode cX5_acceptFrame 44 = .ok (.getfield 12, 3) := by decide +kernel
theorem dX5_acceptFrame_47 : decode cX5_acceptFrame 47 = .ok (.getfield 96, 3) := by decide +kernel
theorem dX5_acceptFrame_50 : decode cX5_acceptFrame 50 = .ok (.imul, 1) := by decide +kernel
theorem dX5_acceptFrame_51 : decode cX5_acceptFrame 51 = .ok (.isub, 1) := by decide +kernel
theorem dX5_acceptFrame_52 : decode cX5_acceptFrame 52 = .ok (.invokevirtual 112, 3) := by decide +kernel
theorem dX5_acceptFrame_55 : decode cX5_acceptFrame 55 = .ok (.iload_n 1, 1) := by decide +kernel
theorem dX5_acceptFrame_56 : decode cX5_acceptFrame 56 = .ok (.aload_n 0, 1) := by decide +kernel
theorem dX5_acceptFrame_57 : decode cX5_acceptFrame 57 = .ok (.getfield 35, 3) := by decide +kernel
theorem dX5_acceptFrame_60 : decode cX5_acceptFrame 60 = .ok (.getfield 116, 3) := by decide +kernel
theorem dX5_acceptFrame_63 : decode cX5_acceptFrame 63 = .ok (.if_icmp .ge 16, 3) := by decide +kernel
theorem dX5_acceptFrame_66 : decode cX5_acceptFrame 66 = .ok (.aload_n 0, 1) := by decide +kernel
theorem dX5_acceptFrame_67 : decode cX5_acceptFrame 67 = .ok (.getfield 42, 3) := by decide +kernel
theorem dX5_acceptFrame_70 : decode cX5_acceptFrame 70 = .ok (.dup, 1) := by decide +kernel
theorem dX5_acceptFrame_71 : decode cX5_acceptFrame 71 = .ok (.getfield 119, 3) := by decide +kernel
theorem dX5_acceptFrame_74 : decode cX5_acceptFrame 74 = .ok (.iconst 1, 1) := by decide +kernel
theorem dX5_acceptFrame_75 : decode cX5_acceptFrame 75 = .ok (.iadd, 1) := by decide +kernel
theorem dX5_acceptFrame_76 : decode cX5_acceptFrame 76 = .ok (.putfield 119, 3) := by decide +kernel
theorem dX5_acceptFrame_79 : decode cX5_acceptFrame 79 = .ok (.aload_n 0, 1) := by decide +kernel
theorem dX5_acceptFrame_80 : decode cX5_acceptFrame 80 = .ok (.getfield 21, 3) := by decide +kernel
theorem dX5_acceptFrame_83 : decode cX5_acceptFrame 83 = .ok (.aload_n 0, 1) := by decide +kernel
theorem dX5_acceptFrame_84 : decode cX5_acceptFrame 84 = .ok (.getfield 12, 3) := by decide +kernel
theorem dX5_acceptFrame_87 : decode cX5_acceptFrame 87 = .ok (.iload_n 1, 1) := by decide +kernel
theorem dX5_acceptFrame_88 : decode cX5_acceptFrame 88 = .ok (.invokevirtual 122, 3) := by decide +kernel
theorem dX5_acceptFrame_91 : decode cX5_acceptFrame 91 = .ok (.iconst 1, 1) := by decide +kernel
theorem dX5_acceptFrame_92 : decode cX5_acceptFrame 92 = .ok (.aload_n 0, 1) := by decide +kernel
theorem dX5_acceptFrame_93 : decode cX5_acceptFrame 93 = .ok (.getfield 21, 3) := by decide +kernel
theorem dX5_acceptFrame_96 : decode cX5_acceptFrame 96 = .ok (.aload_n 0, 1) := by decide +kernel
theorem dX5_acceptFrame_97 : decode cX5_acceptFrame 97 = .ok (.getfield 12, 3) := by decide +kernel
theorem dX5_acceptFrame_100 : decode cX5_acceptFrame 100 = .ok (.iload_n 1, 1) := by decide +kernel
theorem dX5_acceptFrame_101 : decode cX5_acceptFrame 101 = .ok (.aload_n 0, 1) := by decide +kernel
theorem dX5_acceptFrame_102 : decode cX5_acceptFrame 102 = .ok (.getfield 12, 3) := by decide +kernel
theorem dX5_acceptFrame_105 : decode cX5_acceptFrame 105 = .ok (.invokevirtual 126, 3) := by decide +kernel
theorem dX5_acceptFrame_108 : decode cX5_acceptFrame 108 = .ok (.idiv, 1) := by decide +kernel
theorem dX5_acceptFrame_109 : decode cX5_acceptFrame 109 = .ok (.invokevirtual 130, 3) := by decide +kernel
theorem dX5_acceptFrame_112 : decode cX5_acceptFrame 112 = .ok (.iadd, 1) := by decide +kernel
theorem dX5_acceptFrame_113 : decode cX5_acceptFrame 113 = .ok (.ireturn, 1) := by decide +kernel
theorem dX5_acceptPacket_0 : decode cX5_acceptPacket 0 = .ok (.aload_n 0, 1) := by decide +kernel
theorem dX5_acceptPacket_1 : decode cX5_acceptPacket 1 = .ok (.getfield 21, 3) := by decide +kernel
theorem dX5_acceptPacket_4 : decode cX5_acceptPacket 4 = .ok (.iload_n 1, 1) := by decide +kernel
theorem dX5_acceptPacket_5 : decode cX5_acceptPacket 5 = .ok (.iload_n 2, 1) := by decide +kernel
theorem dX5_acceptPacket_6 : decode cX5_acceptPacket 6 = .ok (.iload_n 3, 1) := by decide +kernel
theorem dX5_acceptPacket_7 : decode cX5_acceptPacket 7 = .ok (.invokevirtual 133, 3) := by decide +kernel
theorem dX5_acceptPacket_10 : decode cX5_acceptPacket 10 = .ok (.ifCond .eq 18, 3) := by decide +kernel
theorem dX5_acceptPacket_13 : decode cX5_acceptPacket 13 = .ok (.aload_n 0, 1) := by decide +kernel
theorem dX5_acceptPacket_14 : decode cX5_acceptPacket 14 = .ok (.getfield 42, 3) := by decide +kernel
theorem dX5_acceptPacket_17 : decode cX5_acceptPacket 17 = .ok (.dup, 1) := by decide +kernel
theorem dX5_acceptPacket_18 : decode cX5_acceptPacket 18 = .ok (.getfield 106, 3) := by decide +kernel
theorem dX5_acceptPacket_21 : decode cX5_acceptPacket 21 = .ok (.iconst 1, 1) := by decide +kernel
theorem dX5_acceptPacket_22 : decode cX5_acceptPacket 22 = .ok (.iadd, 1) := by decide +kernel
theorem dX5_acceptPacket_23 : decode cX5_acceptPacket 23 = .ok (.putfield 106, 3) := by decide +kernel
theorem dX5_acceptPacket_26 : decode cX5_acceptPacket 26 = .ok (.iconst 0, 1) := by decide +kernel
theorem dX5_acceptPacket_27 : decode cX5_acceptPacket 27 = .ok (.ireturn, 1) := by decide +kernel
theorem dX5_acceptPacket_28 : decode cX5_acceptPacket 28 = .ok (.aload_n 0, 1) := by decide +kernel
theorem dX5_acceptPacket_29 : decode cX5_acceptPacket 29 = .ok (.invokevirtual 109, 3) := by decide +kernel
theorem dX5_acceptPacket_32 : decode cX5_acceptPacket 32 = .ok (.aload_n 0, 1) := by decide +kernel
theorem dX5_acceptPacket_33 : decode cX5_acceptPacket 33 = .ok (.getfield 21, 3) := by decide +kernel
theorem dX5_acceptPacket_36 : decode cX5_acceptPacket 36 = .ok (.iload_n 1, 1) := by decide +kernel
theorem dX5_acceptPacket_37 : decode cX5_acceptPacket 37 = .ok (.iload_n 2, 1) := by decide +kernel
theorem dX5_acceptPacket_38 : decode cX5_acceptPacket 38 = .ok (.iload_n 3, 1) := by decide +kernel
theorem dX5_acceptPacket_39 : decode cX5_acceptPacket 39 = .ok (.invokevirtual 137, 3) := by decide +kernel
theorem dX5_acceptPacket_42 : decode cX5_acceptPacket 42 = .ok (.aload_n 0, 1) := by decide +kernel
theorem dX5_acceptPacket_43 : decode cX5_acceptPacket 43 = .ok (.getfield 21, 3) := by decide +kernel
theorem dX5_acceptPacket_46 : decode cX5_acceptPacket 46 = .ok (.aload_n 0, 1) := by decide +kernel
theorem dX5_acceptPacket_47 : decode cX5_acceptPacket 47 = .ok (.getfield 12, 3) := by decide +kernel
theorem dX5_acceptPacket_50 : decode cX5_acceptPacket 50 = .ok (.iload_n 2, 1) := by decide +kernel
theorem dX5_acceptPacket_51 : decode cX5_acceptPacket 51 = .ok (.invokevirtual 130, 3) := by decide +kernel
theorem dX5_acceptPacket_54 : decode cX5_acceptPacket 54 = .ok (.ireturn, 1) := by decide +kernel
theorem dX5_passTick_0 : decode cX5_passTick 0 = .ok (.aload_n 0, 1) := by decide +kernel
theorem dX5_passTick_1 : decode cX5_passTick 1 = .ok (.invokevirtual 141, 3) := by decide +kernel
theorem dX5_passTick_4 : decode cX5_passTick 4 = .ok (.aload_n 0, 1) := by decide +kernel
theorem dX5_passTick_5 : decode cX5_passTick 5 = .ok (.getfield 76, 3) := by decide +kernel
theorem dX5_passTick_8 : decode cX5_passTick 8 = .ok (.ifCond .eq 55, 3) := by decide +kernel
theorem dX5_passTick_11 : decode cX5_passTick 11 = .ok (.aload_n 0, 1) := by decide +kernel
theorem dX5_passTick_12 : decode cX5_passTick 12 = .ok (.getfield 72, 3) := by decide +kernel
theorem dX5_passTick_15 : decode cX5_passTick 15 = .ok (.aload_n 0, 1) := by decide +kernel
theorem dX5_passTick_16 : decode cX5_passTick 16 = .ok (.getfield 80, 3) := by decide +kernel
theorem dX5_passTick_19 : decode cX5_passTick 19 = .ok (.if_icmp .lt 44, 3) := by decide +kernel
theorem dX5_passTick_22 : decode cX5_passTick 22 = .ok (.aload_n 0, 1) := by decide +kernel
theorem dX5_passTick_23 : decode cX5_passTick 23 = .ok (.getfield 35, 3) := by decide +kernel
theorem dX5_passTick_26 : decode cX5_passTick 26 = .ok (.invokevirtual 144, 3) := by decide +kernel
theorem dX5_passTick_29 : decode cX5_passTick 29 = .ok (.ifCond .ne 27, 3) := by decide +kernel
theorem dX5_passTick_32 : decode cX5_passTick 32 = .ok (.aload_n 0, 1) := by decide +kernel
theorem dX5_passTick_33 : decode cX5_passTick 33 = .ok (.getfield 35, 3) := by decide +kernel
theorem dX5_passTick_36 : decode cX5_passTick 36 = .ok (.getfield 116, 3) := by decide +kernel
theorem dX5_passTick_39 : decode cX5_passTick 39 = .ok (.sipush 999, 3) := by decide +kernel
theorem dX5_passTick_42 : decode cX5_passTick 42 = .ok (.if_icmp .gt 14, 3) := by decide +kernel
theorem dX5_passTick_45 : decode cX5_passTick 45 = .ok (.aload_n 0, 1) := by decide +kernel
theorem dX5_passTick_46 : decode cX5_passTick 46 = .ok (.aload_n 0, 1) := by decide +kernel
theorem dX5_passTick_47 : decode cX5_passTick 47 = .ok (.getfield 35, 3) := by decide +kernel
theorem dX5_passTick_50 : decode cX5_passTick 50 = .ok (.getfield 116, 3) := by decide +kernel
theorem dX5_passTick_53 : decode cX5_passTick 53 = .ok (.invokevirtual 147, 3) := by decide +kernel
theorem dX5_passTick_56 : decode cX5_passTick 56 = .ok (.aload_n 0, 1) := by decide +kernel
theorem dX5_passTick_57 : decode cX5_passTick 57 = .ok (.getfield 35, 3) := by decide +kernel
theorem dX5_passTick_60 : decode cX5_passTick 60 = .ok (.invokevirtual 150, 3) := by decide +kernel
theorem dX5_passTick_63 : decode cX5_passTick 63 = .ok (.aload_n 0, 1) := by decide +kernel
theorem dX5_passTick_64 : decode cX5_passTick 64 = .ok (.dup, 1) := by decide +kernel
theorem dX5_passTick_65 : decode cX5_passTick 65 = .ok (.getfield 72, 3) := by decide +kernel
theorem dX5_passTick_68 : decode cX5_passTick 68 = .ok (.iconst 1, 1) := by decide +kernel
theorem dX5_passTick_69 : decode cX5_passTick 69 = .ok (.iadd, 1) := by decide +kernel
theorem dX5_passTick_70 : decode cX5_passTick 70 = .ok (.putfield 72, 3) := by decide +kernel
theorem dX5_passTick_73 : decode cX5_passTick 73 = .ok (.return_, 1) := by decide +kernel
theorem dX5_startOnce_0 : decode cX5_startOnce 0 = .ok (.aload_n 0, 1) := by decide +kernel
theorem dX5_startOnce_1 : decode cX5_startOnce 1 = .ok (.getfield 76, 3) := by decide +kernel
theorem dX5_startOnce_4 : decode cX5_startOnce 4 = .ok (.ifCond .ne 24, 3) := by decide +kernel
theorem dX5_startOnce_7 : decode cX5_startOnce 7 = .ok (.aload_n 0, 1) := by decide +kernel
theorem dX5_startOnce_8 : decode cX5_startOnce 8 = .ok (.iconst 1, 1) := by decide +kernel
theorem dX5_startOnce_9 : decode cX5_startOnce 9 = .ok (.putfield 76, 3) := by decide +kernel
theorem dX5_startOnce_12 : decode cX5_startOnce 12 = .ok (.aload_n 0, 1) := by decide +kernel
theorem dX5_startOnce_13 : decode cX5_startOnce 13 = .ok (.aload_n 0, 1) := by decide +kernel
theorem dX5_startOnce_14 : decode cX5_startOnce 14 = .ok (.getfield 72, 3) := by decide +kernel
theorem dX5_startOnce_17 : decode cX5_startOnce 17 = .ok (.aload_n 0, 1) := by decide +kernel
theorem dX5_startOnce_18 : decode cX5_startOnce 18 = .ok (.getfield 12, 3) := by decide +kernel
theorem dX5_startOnce_21 : decode cX5_startOnce 21 = .ok (.getfield 153, 3) := by decide +kernel
theorem dX5_startOnce_24 : decode cX5_startOnce 24 = .ok (.iadd, 1) := by decide +kernel
theorem dX5_startOnce_25 : decode cX5_startOnce 25 = .ok (.putfield 80, 3) := by decide +kernel
theorem dX5_startOnce_28 : decode cX5_startOnce 28 = .ok (.return_, 1) := by decide +kernel
theorem dX5_acceptDue_0 : decode cX5_acceptDue 0 = .ok (.iconst 0, 1) := by decide +kernel
theorem dX5_acceptDue_1 : decode cX5_acceptDue 1 = .ok (.istore_n 1, 1) := by decide +kernel
theorem dX5_acceptDue_2 : decode cX5_acceptDue 2 = .ok (.iload_n 1, 1) := by decide +kernel
theorem dX5_acceptDue_3 : decode cX5_acceptDue 3 = .ok (.aload_n 0, 1) := by decide +kernel
theorem dX5_acceptDue_4 : decode cX5_acceptDue 4 = .ok (.getfield 49, 3) := by decide +kernel
theorem dX5_acceptDue_7 : decode cX5_acceptDue 7 = .ok (.getfield 83, 3) := by decide +kernel
theorem dX5_acceptDue_10 : decode cX5_acceptDue 10 = .ok (.if_icmp .ge 98, 3) := by decide +kernel
theorem dX5_acceptDue_13 : decode cX5_acceptDue 13 = .ok (.aload_n 0, 1) := by decide +kernel
theorem dX5_acceptDue_14 : decode cX5_acceptDue 14 = .ok (.getfield 49, 3) := by decide +kernel
theorem dX5_acceptDue_17 : decode cX5_acceptDue 17 = .ok (.getfield 156, 3) := by decide +kernel
theorem dX5_acceptDue_20 : decode cX5_acceptDue 20 = .ok (.iload_n 1, 1) := by decide +kernel
theorem dX5_acceptDue_21 : decode cX5_acceptDue 21 = .ok (.iaload, 1) := by decide +kernel
theorem dX5_acceptDue_22 : decode cX5_acceptDue 22 = .ok (.aload_n 0, 1) := by decide +kernel
theorem dX5_acceptDue_23 : decode cX5_acceptDue 23 = .ok (.getfield 72, 3) := by decide +kernel
theorem dX5_acceptDue_26 : decode cX5_acceptDue 26 = .ok (.if_icmp .eq 6, 3) := by decide +kernel
theorem dX5_acceptDue_29 : decode cX5_acceptDue 29 = .ok (.goto 73, 3) := by decide +kernel
theorem dX5_acceptDue_32 : decode cX5_acceptDue 32 = .ok (.aload_n 0, 1) := by decide +kernel
theorem dX5_acceptDue_33 : decode cX5_acceptDue 33 = .ok (.getfield 49, 3) := by decide +kernel
theorem dX5_acceptDue_36 : decode cX5_acceptDue 36 = .ok (.getfield 160, 3) := by decide +kernel
theorem dX5_acceptDue_39 : decode cX5_acceptDue 39 = .ok (.iload_n 1, 1) := by decide +kernel
theorem dX5_acceptDue_40 : decode cX5_acceptDue 40 = .ok (.iaload, 1) := by decide +kernel
theorem dX5_acceptDue_41 : decode cX5_acceptDue 41 = .ok (.ifCond .ne 20, 3) := by decide +kernel
theorem dX5_acceptDue_44 : decode cX5_acceptDue 44 = .ok (.aload_n 0, 1) := by decide +kernel
theorem dX5_acceptDue_45 : decode cX5_acceptDue 45 = .ok (.aload_n 0, 1) := by decide +kernel
theorem dX5_acceptDue_46 : decode cX5_acceptDue 46 = .ok (.getfield 49, 3) := by decide +kernel
theorem dX5_acceptDue_49 : decode cX5_acceptDue 49 = .ok (.getfield 163, 3) := by decide +kernel
theorem dX5_acceptDue_52 : decode cX5_acceptDue 52 = .ok (.iload_n 1, 1) := by decide +kernel
theorem dX5_acceptDue_53 : decode cX5_acceptDue 53 = .ok (.iaload, 1) := by decide +kernel
theorem dX5_acceptDue_54 : decode cX5_acceptDue 54 = .ok (.invokevirtual 166, 3) := by decide +kernel
theorem dX5_acceptDue_57 : decode cX5_acceptDue 57 = .ok (.pop, 1) := by decide +kernel
theorem dX5_acceptDue_58 : decode cX5_acceptDue 58 = .ok (.goto 44, 3) := by decide +kernel
theorem dX5_acceptDue_61 : decode cX5_acceptDue 61 = .ok (.aload_n 0, 1) := by decide +kernel
theorem dX5_acceptDue_62 : decode cX5_acceptDue 62 = .ok (.aload_n 0, 1) := by decide +kernel
theorem dX5_acceptDue_63 : decode cX5_acceptDue 63 = .ok (.getfield 49, 3) := by decide +kernel
theorem dX5_acceptDue_66 : decode cX5_acceptDue 66 = .ok (.getfield 160, 3) := by decide +kernel
theorem dX5_acceptDue_69 : decode cX5_acceptDue 69 = .ok (.iload_n 1, 1) := by decide +kernel
theorem dX5_acceptDue_70 : decode cX5_acceptDue 70 = .ok (.iaload, 1) := by decide +kernel
theorem dX5_acceptDue_71 : decode cX5_acceptDue 71 = .ok (.iconst 1, 1) := by decide +kernel
theorem dX5_acceptDue_72 : decode cX5_acceptDue 72 = .ok (.if_icmp .ne 7, 3) := by decide +kernel
theorem dX5_acceptDue_75 : decode cX5_acceptDue 75 = .ok (.iconst 1, 1) := by decide +kernel
theorem dX5_acceptDue_76 : decode cX5_acceptDue 76 = .ok (.goto 4, 3) := by decide +kernel
theorem dX5_acceptDue_79 : decode cX5_acceptDue 79 = .ok (.iconst 0, 1) := by decide +kernel
theorem dX5_acceptDue_80 : decode cX5_acceptDue 80 = .ok (.aload_n 0, 1) := by decide +kernel
theorem dX5_acceptDue_81 : decode cX5_acceptDue 81 = .ok (.getfield 49, 3) := by decide +kernel
theorem dX5_acceptDue_84 : decode cX5_acceptDue 84 = .ok (.getfield 163, 3) := by decide +kernel
theorem dX5_acceptDue_87 : decode cX5_acceptDue 87 = .ok (.iload_n 1, 1) := by decide +kernel
theorem dX5_acceptDue_88 : decode cX5_acceptDue 88 = .ok (.iaload, 1) := by decide +kernel
theorem dX5_acceptDue_89 : decode cX5_acceptDue 89 = .ok (.aload_n 0, 1) := by decide +kernel
theorem dX5_acceptDue_90 : decode cX5_acceptDue 90 = .ok (.getfield 49, 3) := by decide +kernel
theorem dX5_acceptDue_93 : decode cX5_acceptDue 93 = .ok (.getfield 169, 3) := by decide +kernel
theorem dX5_acceptDue_96 : decode cX5_acceptDue 96 = .ok (.iload_n 1, 1) := by decide +kernel
theorem dX5_acceptDue_97 : decode cX5_acceptDue 97 = .ok (.iaload, 1) := by decide +kernel
theorem dX5_acceptDue_98 : decode cX5_acceptDue 98 = .ok (.invokevirtual 172, 3) := by decide +kernel
theorem dX5_acceptDue_101 : decode cX5_acceptDue 101 = .ok (.pop, 1) := by decide +kernel
theorem dX5_acceptDue_102 : decode cX5_acceptDue 102 = .ok (.iinc 1 1, 3) := by decide +kernel
theorem dX5_acceptDue_105 : decode cX5_acceptDue 105 = .ok (.goto (-103), 3) := by decide +kernel
theorem dX5_acceptDue_108 : decode cX5_acceptDue 108 = .ok (.aload_n 0, 1) := by decide +kernel
theorem dX5_acceptDue_109 : decode cX5_acceptDue 109 = .ok (.getfield 49, 3) := by decide +kernel
theorem dX5_acceptDue_112 : decode cX5_acceptDue 112 = .ok (.aload_n 0, 1) := by decide +kernel
theorem dX5_acceptDue_113 : decode cX5_acceptDue 113 = .ok (.getfield 72, 3) := by decide +kernel
theorem dX5_acceptDue_116 : decode cX5_acceptDue 116 = .ok (.invokevirtual 176, 3) := by decide +kernel
theorem dX5_acceptDue_119 : decode cX5_acceptDue 119 = .ok (.return_, 1) := by decide +kernel
theorem dX5_takeFrame_0 : decode cX5_takeFrame 0 = .ok (.aload_n 0, 1) := by decide +kernel
theorem dX5_takeFrame_1 : decode cX5_takeFrame 1 = .ok (.getfield 21, 3) := by decide +kernel
theorem dX5_takeFrame_4 : decode cX5_takeFrame 4 = .ok (.aload_n 0, 1) := by decide +kernel
theorem dX5_takeFrame_5 : decode cX5_takeFrame 5 = .ok (.getfield 12, 3) := by decide +kernel
theorem dX5_takeFrame_8 : decode cX5_takeFrame 8 = .ok (.iload_n 1, 1) := by decide +kernel
theorem dX5_takeFrame_9 : decode cX5_takeFrame 9 = .ok (.invokevirtual 103, 3) := by decide +kernel
theorem dX5_takeFrame_12 : decode cX5_takeFrame 12 = .ok (.istore_n 2, 1) := by decide +kernel
theorem dX5_takeFrame_13 : decode cX5_takeFrame 13 = .ok (.iload_n 2, 1) := by decide +kernel
theorem dX5_takeFrame_14 : decode cX5_takeFrame 14 = .ok (.ifCond .ne 40, 3) := by decide +kernel
theorem dX5_takeFrame_17 : decode cX5_takeFrame 17 = .ok (.aload_n 0, 1) := by decide +kernel
theorem dX5_takeFrame_18 : decode cX5_takeFrame 18 = .ok (.getfield 42, 3) := by decide +kernel
theorem dX5_takeFrame_21 : decode cX5_takeFrame 21 = .ok (.invokevirtual 179, 3) := by decide +kernel
theorem dX5_takeFrame_24 : decode cX5_takeFrame 24 = .ok (.aload_n 0, 1) := by decide +kernel
theorem dX5_takeFrame_25 : decode cX5_takeFrame 25 = .ok (.getfield 35, 3) := by decide +kernel
theorem dX5_takeFrame_28 : decode cX5_takeFrame 28 = .ok (.iconst 3, 1) := by decide +kernel
theorem dX5_takeFrame_29 : decode cX5_takeFrame 29 = .ok (.invokevirtual 182, 3) := by decide +kernel
theorem dX5_takeFrame_32 : decode cX5_takeFrame 32 = .ok (.aload_n 0, 1) := by decide +kernel
theorem dX5_takeFrame_33 : decode cX5_takeFrame 33 = .ok (.getfield 35, 3) := by decide +kernel
theorem dX5_takeFrame_36 : decode cX5_takeFrame 36 = .ok (.aload_n 0, 1) := by decide +kernel
theorem dX5_takeFrame_37 : decode cX5_takeFrame 37 = .ok (.getfield 12, 3) := by decide +kernel
theorem dX5_takeFrame_40 : decode cX5_takeFrame 40 = .ok (.getfield 96, 3) := by decide +kernel
theorem dX5_takeFrame_43 : decode cX5_takeFrame 43 = .ok (.aload_n 0, 1) := by decide +kernel
theorem dX5_takeFrame_44 : decode cX5_takeFrame 44 = .ok (.getfield 42, 3) := by decide +kernel
theorem dX5_takeFrame_47 : decode cX5_takeFrame 47 = .ok (.getfield 185, 3) := by decide +kernel
theorem dX5_takeFrame_50 : decode cX5_takeFrame 50 = .ok (.invokevirtual 188, 3) := by decide +kernel
theorem dX5_takeFrame_53 : decode cX5_takeFrame 53 = .ok (.return_, 1) := by decide +kernel
theorem dX5_takeFrame_54 : decode cX5_takeFrame 54 = .ok (.iload_n 2, 1) := by decide +kernel
theorem dX5_takeFrame_55 : decode cX5_takeFrame 55 = .ok (.iconst 2, 1) := by decide +kernel
theorem dX5_takeFrame_56 : decode cX5_takeFrame 56 = .ok (.if_icmp .ne 7, 3) := by decide +kernel
theorem dX5_takeFrame_59 : decode cX5_takeFrame 59 = .ok (.iconst 1, 1) := by decide +kernel
theorem dX5_takeFrame_60 : decode cX5_takeFrame 60 = .ok (.goto 4, 3) := by decide +kernel
theorem dX5_takeFrame_63 : decode cX5_takeFrame 63 = .ok (.iconst 2, 1) := by decide +kernel
theorem dX5_takeFrame_64 : decode cX5_takeFrame 64 = .ok (.istore_n 3, 1) := by decide +kernel
theorem dX5_takeFrame_65 : decode cX5_takeFrame 65 = .ok (.aload_n 0, 1) := by decide +kernel
theorem dX5_takeFrame_66 : decode cX5_takeFrame 66 = .ok (.getfield 42, 3) := by decide +kernel
theorem dX5_takeFrame_69 : decode cX5_takeFrame 69 = .ok (.iload_n 3, 1) := by decide +kernel
theorem dX5_takeFrame_70 : decode cX5_takeFrame 70 = .ok (.invokevirtual 192, 3) := by decide +kernel
theorem dX5_takeFrame_73 : decode cX5_takeFrame 73 = .ok (.aload_n 0, 1) := by decide +kernel
theorem dX5_takeFrame_74 : decode cX5_takeFrame 74 = .ok (.getfield 35, 3) := by decide +kernel
theorem dX5_takeFrame_77 : decode cX5_takeFrame 77 = .ok (.iload_n 3, 1) := by decide +kernel
theorem dX5_takeFrame_78 : decode cX5_takeFrame 78 = .ok (.invokevirtual 182, 3) := by decide +kernel
theorem dX5_takeFrame_81 : decode cX5_takeFrame 81 = .ok (.aload_n 0, 1) := by decide +kernel
theorem dX5_takeFrame_82 : decode cX5_takeFrame 82 = .ok (.iload_n 1, 1) := by decide +kernel
theorem dX5_takeFrame_83 : decode cX5_takeFrame 83 = .ok (.invokevirtual 195, 3) := by decide +kernel
theorem dX5_takeFrame_86 : decode cX5_takeFrame 86 = .ok (.return_, 1) := by decide +kernel
theorem dX5_putKnown_0 : decode cX5_putKnown 0 = .ok (.aload_n 0, 1) := by decide +kernel
theorem dX5_putKnown_1 : decode cX5_putKnown 1 = .ok (.iload_n 1, 1) := by decide +kernel
theorem dX5_putKnown_2 : decode cX5_putKnown 2 = .ok (.iconst 1, 1) := by decide +kernel
theorem dX5_putKnown_3 : decode cX5_putKnown 3 = .ok (.iadd, 1) := by decide +kernel
theorem dX5_putKnown_4 : decode cX5_putKnown 4 = .ok (.invokevirtual 198, 3) := by decide +kernel
theorem dX5_putKnown_7 : decode cX5_putKnown 7 = .ok (.istore_n 2, 1) := by decide +kernel
theorem dX5_putKnown_8 : decode cX5_putKnown 8 = .ok (.aload_n 0, 1) := by decide +kernel
theorem dX5_putKnown_9 : decode cX5_putKnown 9 = .ok (.invokevirtual 201, 3) := by decide +kernel
theorem dX5_putKnown_12 : decode cX5_putKnown 12 = .ok (.istore_n 3, 1) := by decide +kernel
theorem dX5_putKnown_13 : decode cX5_putKnown 13 = .ok (.aload_n 0, 1) := by decide +kernel
theorem dX5_putKnown_14 : decode cX5_putKnown 14 = .ok (.getfield 35, 3) := by decide +kernel
theorem dX5_putKnown_17 : decode cX5_putKnown 17 = .ok (.aload_n 0, 1) := by decide +kernel
theorem dX5_putKnown_18 : decode cX5_putKnown 18 = .ok (.getfield 12, 3) := by decide +kernel
theorem dX5_putKnown_21 : decode cX5_putKnown 21 = .ok (.iload_n 1, 1) := by decide +kernel
theorem dX5_putKnown_22 : decode cX5_putKnown 22 = .ok (.invokevirtual 204, 3) := by decide +kernel
theorem dX5_putKnown_25 : decode cX5_putKnown 25 = .ok (.aload_n 0, 1) := by decide +kernel
theorem dX5_putKnown_26 : decode cX5_putKnown 26 = .ok (.getfield 12, 3) := by decide +kernel
theorem dX5_putKnown_29 : decode cX5_putKnown 29 = .ok (.getfield 207, 3) := by decide +kernel
theorem dX5_putKnown_32 : decode cX5_putKnown 32 = .ok (.ifCond .eq 46, 3) := by decide +kernel
theorem dX5_putKnown_35 : decode cX5_putKnown 35 = .ok (.iload_n 2, 1) := by decide +kernel
theorem dX5_putKnown_36 : decode cX5_putKnown 36 = .ok (.iload_n 3, 1) := by decide +kernel
theorem dX5_putKnown_37 : decode cX5_putKnown 37 = .ok (.aload_n 0, 1) := by decide +kernel
theorem dX5_putKnown_38 : decode cX5_putKnown 38 = .ok (.getfield 12, 3) := by decide +kernel
theorem dX5_putKnown_41 : decode cX5_putKnown 41 = .ok (.getfield 96, 3) := by decide +kernel
theorem dX5_putKnown_44 : decode cX5_putKnown 44 = .ok (.iadd, 1) := by decide +kernel
theorem dX5_putKnown_45 : decode cX5_putKnown 45 = .ok (.if_icmp .le 33, 3) := by decide +kernel
theorem dX5_putKnown_48 : decode cX5_putKnown 48 = .ok (.aload_n 0, 1) := by decide +kernel
theorem dX5_putKnown_49 : decode cX5_putKnown 49 = .ok (.getfield 42, 3) := by decide +kernel
theorem dX5_putKnown_52 : decode cX5_putKnown 52 = .ok (.dup, 1) := by decide +kernel
theorem dX5_putKnown_53 : decode cX5_putKnown 53 = .ok (.getfield 210, 3) := by decide +kernel
theorem dX5_putKnown_56 : decode cX5_putKnown 56 = .ok (.iconst 1, 1) := by decide +kernel
theorem dX5_putKnown_57 : decode cX5_putKnown 57 = .ok (.iadd, 1) := by decide +kernel
theorem dX5_putKnown_58 : decode cX5_putKnown 58 = .ok (.putfield 210, 3) := by decide +kernel
theorem dX5_putKnown_61 : decode cX5_putKnown 61 = .ok (.aload_n 0, 1) := by decide +kernel
theorem dX5_putKnown_62 : decode cX5_putKnown 62 = .ok (.getfield 35, 3) := by decide +kernel
theorem dX5_putKnown_65 : decode cX5_putKnown 65 = .ok (.aload_n 0, 1) := by decide +kernel
theorem dX5_putKnown_66 : decode cX5_putKnown 66 = .ok (.getfield 12, 3) := by decide +kernel
theorem dX5_putKnown_69 : decode cX5_putKnown 69 = .ok (.getfield 96, 3) := by decide +kernel
theorem dX5_putKnown_72 : decode cX5_putKnown 72 = .ok (.invokevirtual 213, 3) := by decide +kernel
theorem dX5_putKnown_75 : decode cX5_putKnown 75 = .ok (.goto 70, 3) := by decide +kernel
theorem dX5_putKnown_78 : decode cX5_putKnown 78 = .ok (.aload_n 0, 1) := by decide +kernel
theorem dX5_putKnown_79 : decode cX5_putKnown 79 = .ok (.getfield 12, 3) := by decide +kernel
theorem dX5_putKnown_82 : decode cX5_putKnown 82 = .ok (.getfield 207, 3) := by decide +kernel
theorem dX5_putKnown_85 : decode cX5_putKnown 85 = .ok (.ifCond .eq 46, 3) := by decide +kernel
theorem dX5_putKnown_88 : decode cX5_putKnown 88 = .ok (.iload_n 2, 1) := by decide +kernel
theorem dX5_putKnown_89 : decode cX5_putKnown 89 = .ok (.aload_n 0, 1) := by decide +kernel
theorem dX5_putKnown_90 : decode cX5_putKnown 90 = .ok (.getfield 12, 3) := by decide +kernel
theorem dX5_putKnown_93 : decode cX5_putKnown 93 = .ok (.getfield 96, 3) := by decide +kernel
theorem dX5_putKnown_96 : decode cX5_putKnown 96 = .ok (.iadd, 1) := by decide +kernel
theorem dX5_putKnown_97 : decode cX5_putKnown 97 = .ok (.iload_n 3, 1) := by decide +kernel
theorem dX5_putKnown_98 : decode cX5_putKnown 98 = .ok (.if_icmp .ge 33, 3) := by decide +kernel
theorem dX5_putKnown_101 : decode cX5_putKnown 101 = .ok (.aload_n 0, 1) := by decide +kernel
theorem dX5_putKnown_102 : decode cX5_putKnown 102 = .ok (.getfield 42, 3) := by decide +kernel
theorem dX5_putKnown_105 : decode cX5_putKnown 105 = .ok (.dup, 1) := by decide +kernel
theorem dX5_putKnown_106 : decode cX5_putKnown 106 = .ok (.getfield 216, 3) := by decide +kernel
theorem dX5_putKnown_109 : decode cX5_putKnown 109 = .ok (.iconst 1, 1) := by decide +kernel
theorem dX5_putKnown_110 : decode cX5_putKnown 110 = .ok (.iadd, 1) := by decide +kernel
theorem dX5_putKnown_111 : decode cX5_putKnown 111 = .ok (.putfield 216, 3) := by decide +kernel
theorem dX5_putKnown_114 : decode cX5_putKnown 114 = .ok (.aload_n 0, 1) := by decide +kernel
theorem dX5_putKnown_115 : decode cX5_putKnown 115 = .ok (.getfield 35, 3) := by decide +kernel
theorem dX5_putKnown_118 : decode cX5_putKnown 118 = .ok (.aload_n 0, 1) := by decide +kernel
theorem dX5_putKnown_119 : decode cX5_putKnown 119 = .ok (.getfield 12, 3) := by decide +kernel
theorem dX5_putKnown_122 : decode cX5_putKnown 122 = .ok (.getfield 96, 3) := by decide +kernel
theorem dX5_putKnown_125 : decode cX5_putKnown 125 = .ok (.invokevirtual 219, 3) := by decide +kernel
theorem dX5_putKnown_128 : decode cX5_putKnown 128 = .ok (.goto 17, 3) := by decide +kernel
theorem dX5_putKnown_131 : decode cX5_putKnown 131 = .ok (.aload_n 0, 1) := by decide +kernel
theorem dX5_putKnown_132 : decode cX5_putKnown 132 = .ok (.getfield 35, 3) := by decide +kernel
theorem dX5_putKnown_135 : decode cX5_putKnown 135 = .ok (.aload_n 0, 1) := by decide +kernel
theorem dX5_putKnown_136 : decode cX5_putKnown 136 = .ok (.getfield 12, 3) := by decide +kernel
theorem dX5_putKnown_139 : decode cX5_putKnown 139 = .ok (.getfield 96, 3) := by decide +kernel
theorem dX5_putKnown_142 : decode cX5_putKnown 142 = .ok (.invokevirtual 222, 3) := by decide +kernel
theorem dX5_putKnown_145 : decode cX5_putKnown 145 = .ok (.return_, 1) := by decide +kernel
theorem dX6_init_0 : decode cX6_init 0 = .ok (.aload_n 0, 1) := by decide +kernel
theorem dX6_init_1 : decode cX6_init 1 = .ok (.invokespecial 3, 3) := by decide +kernel
theorem dX6_init_4 : decode cX6_init 4 = .ok (.aload_n 0, 1) := by decide +kernel
theorem dX6_init_5 : decode cX6_init 5 = .ok (.bipush 8, 2) := by decide +kernel
theorem dX6_init_7 : decode cX6_init 7 = .ok (.putfield 9, 3) := by decide +kernel
theorem dX6_init_10 : decode cX6_init 10 = .ok (.aload_n 0, 1) := by decide +kernel
theorem dX6_init_11 : decode cX6_init 11 = .ok (.bipush 16, 2) := by decide +kernel
theorem dX6_init_13 : decode cX6_init 13 = .ok (.putfield 15, 3) := by decide +kernel
theorem dX6_init_16 : decode cX6_init 16 = .ok (.aload_n 0, 1) := by decide +kernel
theorem dX6_init_17 : decode cX6_init 17 = .ok (.bipush 25, 2) := by decide +kernel
theorem dX6_init_19 : decode cX6_init 19 = .ok (.putfield 18, 3) := by decide +kernel
theorem dX6_init_22 : decode cX6_init 22 = .ok (.aload_n 0, 1) := by decide +kernel
theorem dX6_init_23 : decode cX6_init 23 = .ok (.iconst 4, 1) := by decide +kernel
theorem dX6_init_24 : decode cX6_init 24 = .ok (.putfield 21, 3) := by decide +kernel
theorem dX6_init_27 : decode cX6_init 27 = .ok (.aload_n 0, 1) := by decide +kernel
theorem dX6_init_28 : decode cX6_init 28 = .ok (.iconst 4, 1) := by decide +kernel
theorem dX6_init_29 : decode cX6_init 29 = .ok (.putfield 24, 3) := by decide +kernel
theorem dX6_init_32 : decode cX6_init 32 = .ok (.aload_n 0, 1) := by decide +kernel
theorem dX6_init_33 : decode cX6_init 33 = .ok (.bipush 16, 2) := by decide +kernel
theorem dX6_init_35 : decode cX6_init 35 = .ok (.putfield 27, 3) := by decide +kernel
theorem dX6_init_38 : decode cX6_init 38 = .ok (.aload_n 0, 1) := by decide +kernel
theorem dX6_init_39 : decode cX6_init 39 = .ok (.bipush 90, 2) := by decide +kernel
theorem dX6_init_41 : decode cX6_init 41 = .ok (.putfield 30, 3) := by decide +kernel
theorem dX6_init_44 : decode cX6_init 44 = .ok (.aload_n 0, 1) := by decide +kernel
theorem dX6_init_45 : decode cX6_init 45 = .ok (.bipush 8, 2) := by decide +kernel
theorem dX6_init_47 : decode cX6_init 47 = .ok (.putfield 33, 3) := by decide +kernel
theorem dX6_init_50 : decode cX6_init 50 = .ok (.aload_n 0, 1) := by decide +kernel
theorem dX6_init_51 : decode cX6_init 51 = .ok (.iconst 1, 1) := by decide +kernel
theorem dX6_init_52 : decode cX6_init 52 = .ok (.putfield 36, 3) := by decide +kernel
theorem dX6_init_55 : decode cX6_init 55 = .ok (.return_, 1) := by decide +kernel
theorem dX6_copyFrom_0 : decode cX6_copyFrom 0 = .ok (.aload_n 0, 1) := by decide +kernel
theorem dX6_copyFrom_1 : decode cX6_copyFrom 1 = .ok (.aload_n 1, 1) := by decide +kernel
theorem dX6_copyFrom_2 : decode cX6_copyFrom 2 = .ok (.getfield 9, 3) := by decide +kernel
theorem dX6_copyFrom_5 : decode cX6_copyFrom 5 = .ok (.putfield 9, 3) := by decide +kernel
theorem dX6_copyFrom_8 : decode cX6_copyFrom 8 = .ok (.aload_n 0, 1) := by decide +kernel
theorem dX6_copyFrom_9 : decode cX6_copyFrom 9 = .ok (.aload_n 1, 1) := by decide +kernel
theorem dX6_copyFrom_10 : decode cX6_copyFrom 10 = .ok (.getfield 15, 3) := by decide +kernel
theorem dX6_copyFrom_13 : decode cX6_copyFrom 13 = .ok (.putfield 15, 3) := by decide +kernel
theorem dX6_copyFrom_16 : decode cX6_copyFrom 16 = .ok (.aload_n 0, 1) := by decide +kernel
theorem dX6_copyFrom_17 : decode cX6_copyFrom 17 = .ok (.aload_n 1, 1) := by decide +kernel
theorem dX6_copyFrom_18 : decode cX6_copyFrom 18 = .ok (.getfield 18, 3) := by decide +kernel
theorem dX6_copyFrom_21 : decode cX6_copyFrom 21 = .ok (.putfield 18, 3) := by decide +kernel
theorem dX6_copyFrom_24 : decode cX6_copyFrom 24 = .ok (.aload_n 0, 1) := by decide +kernel
theorem dX6_copyFrom_25 : decode cX6_copyFrom 25 = .ok (.aload_n 1, 1) := by decide +kernel
theorem dX6_copyFrom_26 : decode cX6_copyFrom 26 = .ok (.getfield 21, 3) := by decide +kernel
theorem dX6_copyFrom_29 : decode cX6_copyFrom 29 = .ok (.putfield 21, 3) := by decide +kernel
theorem dX6_copyFrom_32 : decode cX6_copyFrom 32 = .ok (.aload_n 0, 1) := by decide +kernel
theorem dX6_copyFrom_33 : decode cX6_copyFrom 33 = .ok (.aload_n 1, 1) := by decide +kernel
theorem dX6_copyFrom_34 : decode cX6_copyFrom 34 = .ok (.getfield 24, 3) := by decide +kernel
theorem dX6_copyFrom_37 : decode cX6_copyFrom 37 = .ok (.putfield 24, 3) := by decide +kernel
theorem dX6_copyFrom_40 : decode cX6_copyFrom 40 = .ok (.aload_n 0, 1) := by decide +kernel
theorem dX6_copyFrom_41 : decode cX6_copyFrom 41 = .ok (.aload_n 1, 1) := by decide +kernel
theorem dX6_copyFrom_42 : decode cX6_copyFrom 42 = .ok (.getfield 27, 3) := by decide +kernel
theorem dX6_copyFrom_45 : decode cX6_copyFrom 45 = .ok (.putfield 27, 3) := by decide +kernel
theorem dX6_copyFrom_48 : decode cX6_copyFrom 48 = .ok (.aload_n 0, 1) := by decide +kernel
theorem dX6_copyFrom_49 : decode cX6_copyFrom 49 = .ok (.aload_n 1, 1) := by decide +kernel
theorem dX6_copyFrom_50 : decode cX6_copyFrom 50 = .ok (.getfield 30, 3) := by decide +kernel
theorem dX6_copyFrom_53 : decode cX6_copyFrom 53 = .ok (.putfield 30, 3) := by decide +kernel
theorem dX6_copyFrom_56 : decode cX6_copyFrom 56 = .ok (.aload_n 0, 1) := by decide +kernel
theorem dX6_copyFrom_57 : decode cX6_copyFrom 57 = .ok (.aload_n 1, 1) := by decide +kernel
theorem dX6_copyFrom_58 : decode cX6_copyFrom 58 = .ok (.getfield 33, 3) := by decide +kernel
theorem dX6_copyFrom_61 : decode cX6_copyFrom 61 = .ok (.putfield 33, 3) := by decide +kernel
theorem dX6_copyFrom_64 : decode cX6_copyFrom 64 = .ok (.aload_n 0, 1) := by decide +kernel
theorem dX6_copyFrom_65 : decode cX6_copyFrom 65 = .ok (.aload_n 1, 1) := by decide +kernel
theorem dX6_copyFrom_66 : decode cX6_copyFrom 66 = .ok (.getfield 36, 3) := by decide +kernel
theorem dX6_copyFrom_69 : decode cX6_copyFrom 69 = .ok (.putfield 36, 3) := by decide +kernel
theorem dX6_copyFrom_72 : decode cX6_copyFrom 72 = .ok (.return_, 1) := by decide +kernel
theorem dX6_waveAt_0 : decode cX6_waveAt 0 = .ok (.iload_n 1, 1) := by decide +kernel
theorem dX6_waveAt_1 : decode cX6_waveAt 1 = .ok (.aload_n 0, 1) := by decide +kernel
theorem dX6_waveAt_2 : decode cX6_waveAt 2 = .ok (.getfield 9, 3) := by decide +kernel
theorem dX6_waveAt_5 : decode cX6_waveAt 5 = .ok (.imul, 1) := by decide +kernel
theorem dX6_waveAt_6 : decode cX6_waveAt 6 = .ok (.iload_n 2, 1) := by decide +kernel
theorem dX6_waveAt_7 : decode cX6_waveAt 7 = .ok (.iadd, 1) := by decide +kernel
theorem dX6_waveAt_8 : decode cX6_waveAt 8 = .ok (.aload_n 0, 1) := by decide +kernel
theorem dX6_waveAt_9 : decode cX6_waveAt 9 = .ok (.getfield 15, 3) := by decide +kernel
theorem dX6_waveAt_12 : decode cX6_waveAt 12 = .ok (.irem, 1) := by decide +kernel
theorem dX6_waveAt_13 : decode cX6_waveAt 13 = .ok (.istore_n 3, 1) := by decide +kernel
theorem dX6_waveAt_14 : decode cX6_waveAt 14 = .ok (.aload_n 0, 1) := by decide +kernel
theorem dX6_waveAt_15 : decode cX6_waveAt 15 = .ok (.getfield 18, 3) := by decide +kernel
theorem dX6_waveAt_18 : decode cX6_waveAt 18 = .ok (.iload_n 3, 1) := by decide +kernel
theorem dX6_waveAt_19 : decode cX6_waveAt 19 = .ok (.imul, 1) := by decide +kernel
theorem dX6_waveAt_20 : decode cX6_waveAt 20 = .ok (.sipush 201, 3) := by decide +kernel
theorem dX6_waveAt_23 : decode cX6_waveAt 23 = .ok (.irem, 1) := by decide +kernel
theorem dX6_waveAt_24 : decode cX6_waveAt 24 = .ok (.bipush 100, 2) := by decide +kernel
theorem dX6_waveAt_26 : decode cX6_waveAt 26 = .ok (.isub, 1) := by decide +kernel
theorem dX6_waveAt_27 : decode cX6_waveAt 27 = .ok (.ireturn, 1) := by decide +kernel
theorem dX6_cells_0 : decode cX6_cells 0 = .ok (.aload_n 0, 1) := by decide +kernel
theorem dX6_cells_1 : decode cX6_cells 1 = .ok (.getfield 21, 3) := by decide +kernel
theorem dX6_cells_4 : decode cX6_cells 4 = .ok (.aload_n 0, 1) := by decide +kernel
theorem dX6_cells_5 : decode cX6_cells 5 = .ok (.getfield 24, 3) := by decide +kernel
theorem dX6_cells_8 : decode cX6_cells 8 = .ok (.imul, 1) := by decide +kernel
theorem dX6_cells_9 : decode cX6_cells 9 = .ok (.ireturn, 1) := by decide +kernel
theorem dX6_hasBlock_0 : decode cX6_hasBlock 0 = .ok (.iload_n 1, 1) := by decide +kernel
theorem dX6_hasBlock_1 : decode cX6_hasBlock 1 = .ok (.ifCond .lt 19, 3) := by decide +kernel
theorem dX6_hasBlock_4 : decode cX6_hasBlock 4 = .ok (.iload_n 1, 1) := by decide +kernel
theorem dX6_hasBlock_5 : decode cX6_hasBlock 5 = .ok (.sipush 999, 3) := by decide +kernel
theorem dX6_hasBlock_8 : decode cX6_hasBlock 8 = .ok (.aload_n 0, 1) := by decide +kernel
theorem dX6_hasBlock_9 : decode cX6_hasBlock 9 = .ok (.invokevirtual 40, 3) := by decide +kernel
theorem dX6_hasBlock_12 : decode cX6_hasBlock 12 = .ok (.idiv, 1) := by decide +kernel
theorem dX6_hasBlock_13 : decode cX6_hasBlock 13 = .ok (.if_icmp .gt 7, 3) := by decide +kernel
theorem dX6_hasBlock_16 : decode cX6_hasBlock 16 = .ok (.iconst 1, 1) := by decide +kernel
theorem dX6_hasBlock_17 : decode cX6_hasBlock 17 = .ok (.goto 4, 3) := by decide +kernel
theorem dX6_hasBlock_20 : decode cX6_hasBlock 20 = .ok (.iconst 0, 1) := by decide +kernel
theorem dX6_hasBlock_21 : decode cX6_hasBlock 21 = .ok (.ireturn, 1) := by decide +kernel
theorem dX6_hasPacket_0 : decode cX6_hasPacket 0 = .ok (.aload_n 0, 1) := by decide +kernel
theorem dX6_hasPacket_1 : decode cX6_hasPacket 1 = .ok (.iload_n 2, 1) := by decide +kernel
theorem dX6_hasPacket_2 : decode cX6_hasPacket 2 = .ok (.invokevirtual 44, 3) := by decide +kernel
theorem dX6_hasPacket_5 : decode cX6_hasPacket 5 = .ok (.ifCond .eq 30, 3) := by decide +kernel
theorem dX6_hasPacket_8 : decode cX6_hasPacket 8 = .ok (.iload_n 3, 1) := by decide +kernel
theorem dX6_hasPacket_9 : decode cX6_hasPacket 9 = .ok (.ifCond .lt 26, 3) := by decide +kernel
theorem dX6_hasPacket_12 : decode cX6_hasPacket 12 = .ok (.iload_n 3, 1) := by decide +kernel
theorem dX6_hasPacket_13 : decode cX6_hasPacket 13 = .ok (.iload_n 1, 1) := by decide +kernel
theorem dX6_hasPacket_14 : decode cX6_hasPacket 14 = .ok (.ifCond .eq 10, 3) := by decide +kernel
theorem dX6_hasPacket_17 : decode cX6_hasPacket 17 = .ok (.aload_n 0, 1) := by decide +kernel
theorem dX6_hasPacket_18 : decode cX6_hasPacket 18 = .ok (.getfield 24, 3) := by decide +kernel
theorem dX6_hasPacket_21 : decode cX6_hasPacket 21 = .ok (.goto 7, 3) := by decide +kernel
theorem dX6_hasPacket_24 : decode cX6_hasPacket 24 = .ok (.aload_n 0, 1) := by decide +kernel
theorem dX6_hasPacket_25 : decode cX6_hasPacket 25 = .ok (.getfield 21, 3) := by decide +kernel
theorem dX6_hasPacket_28 : decode cX6_hasPacket 28 = .ok (.if_icmp .ge 7, 3) := by decide +kernel
theorem dX6_hasPacket_31 : decode cX6_hasPacket 31 = .ok (.iconst 1, 1) := by decide +kernel
theorem dX6_hasPacket_32 : decode cX6_hasPacket 32 = .ok (.goto 4, 3) := by decide +kernel
theorem dX6_hasPacket_35 : decode cX6_hasPacket 35 = .ok (.iconst 0, 1) := by decide +kernel
theorem dX6_hasPacket_36 : decode cX6_hasPacket 36 = .ok (.ireturn, 1) := by decide +kernel
theorem dX6_coveredFrame_0 : decode cX6_coveredFrame 0 = .ok (.iload_n 1, 1) := by decide +kernel
theorem dX6_coveredFrame_1 : decode cX6_coveredFrame 1 = .ok (.ifCond .eq 15, 3) := by decide +kernel
theorem dX6_coveredFrame_4 : decode cX6_coveredFrame 4 = .ok (.iload_n 3, 1) := by decide +kernel
theorem dX6_coveredFrame_5 : decode cX6_coveredFrame 5 = .ok (.aload_n 0, 1) := by decide +kernel
theorem dX6_coveredFrame_6 : decode cX6_coveredFrame 6 = .ok (.getfield 21, 3) := by decide +kernel
theorem dX6_coveredFrame_9 : decode cX6_coveredFrame 9 = .ok (.imul, 1) := by decide +kernel
theorem dX6_coveredFrame_10 : decode cX6_coveredFrame 10 = .ok (.iload 4, 2) := by decide +kernel
theorem dX6_coveredFrame_12 : decode cX6_coveredFrame 12 = .ok (.iadd, 1) := by decide +kernel
theorem dX6_coveredFrame_13 : decode cX6_coveredFrame 13 = .ok (.goto 12, 3) := by decide +kernel
theorem dX6_coveredFrame_16 : decode cX6_coveredFrame 16 = .ok (.iload 4, 2) := by decide +kernel
theorem dX6_coveredFrame_18 : decode cX6_coveredFrame 18 = .ok (.aload_n 0, 1) := by decide +kernel
theorem dX6_coveredFrame_19 : decode cX6_coveredFrame 19 = .ok (.getfield 21, 3) := by decide +kernel
theorem dX6_coveredFrame_22 : decode cX6_coveredFrame 22 = .ok (.imul, 1) := by decide +kernel
theorem dX6_coveredFrame_23 : decode cX6_coveredFrame 23 = .ok (.iload_n 3, 1) := by decide +kernel
theorem dX6_coveredFrame_24 : decode cX6_coveredFrame 24 = .ok (.iadd, 1) := by decide +kernel
theorem dX6_coveredFrame_25 : decode cX6_coveredFrame 25 = .ok (.istore 5, 2) := by decide +kernel
theorem dX6_coveredFrame_27 : decode cX6_coveredFrame 27 = .ok (.iload_n 2, 1) := by decide +kernel
theorem dX6_coveredFrame_28 : decode cX6_coveredFrame 28 = .ok (.aload_n 0, 1) := by decide +kernel
theorem dX6_coveredFrame_29 : decode cX6_coveredFrame 29 = .ok (.invokevirtual 40, 3) := by decide +kernel
theorem dX6_coveredFrame_32 : decode cX6_coveredFrame 32 = .ok (.imul, 1) := by decide +kernel
theorem dX6_coveredFrame_33 : decode cX6_coveredFrame 33 = .ok (.iload 5, 2) := by decide +kernel
theorem dX6_coveredFrame_35 : decode cX6_coveredFrame 35 = .ok (.iadd, 1) := by decide +kernel
theorem dX6_coveredFrame_36 : decode cX6_coveredFrame 36 = .ok (.ireturn, 1) := by decide +kernel
theorem dX7_init_0 : decode cX7_init 0 = .ok (.aload_n 0, 1) := by decide +kernel
theorem dX7_init_1 : decode cX7_init 1 = .ok (.invokespecial 1, 3) := by decide +kernel
theorem dX7_init_4 : decode cX7_init 4 = .ok (.aload_n 0, 1) := by decide +kernel
theorem dX7_init_5 : decode cX7_init 5 = .ok (.bipush 16, 2) := by decide +kernel
theorem dX7_init_7 : decode cX7_init 7 = .ok (.newarray .int, 2) := by decide +kernel
theorem dX7_init_9 : decode cX7_init 9 = .ok (.putfield 9, 3) := by decide +kernel
theorem dX7_init_12 : decode cX7_init 12 = .ok (.aload_n 0, 1) := by decide +kernel
theorem dX7_init_13 : decode cX7_init 13 = .ok (.bipush 16, 2) := by decide +kernel
theorem dX7_init_15 : decode cX7_init 15 = .ok (.newarray .int, 2) := by decide +kernel
theorem dX7_init_17 : decode cX7_init 17 = .ok (.putfield 13, 3) := by decide +kernel
theorem dX7_init_20 : decode cX7_init 20 = .ok (.return_, 1) := by decide +kernel
theorem dX7_copyFrom_0 : decode cX7_copyFrom 0 = .ok (.aload_n 1, 1) := by decide +kernel
theorem dX7_copyFrom_1 : decode cX7_copyFrom 1 = .ok (.getfield 9, 3) := by decide +kernel
theorem dX7_copyFrom_4 : decode cX7_copyFrom 4 = .ok (.iconst 0, 1) := by decide +kernel
theorem dX7_copyFrom_5 : decode cX7_copyFrom 5 = .ok (.aload_n 0, 1) := by decide +kernel
theorem dX7_copyFrom_6 : decode cX7_copyFrom 6 = .ok (.getfield 9, 3) := by decide +kernel
theorem dX7_copyFrom_9 : decode cX7_copyFrom 9 = .ok (.iconst 0, 1) := by decide +kernel
theorem dX7_copyFrom_10 : decode cX7_copyFrom 10 = .ok (.bipush 16, 2) := by decide +kernel
theorem dX7_copyFrom_12 : decode cX7_copyFrom 12 = .ok (.invokestatic 16, 3) := by decide +kernel
theorem dX7_copyFrom_15 : decode cX7_copyFrom 15 = .ok (.aload_n 1, 1) := by decide +kernel
theorem dX7_copyFrom_16 : decode cX7_copyFrom 16 = .ok (.getfield 13, 3) := by decide +kernel
theorem dX7_copyFrom_19 : decode cX7_copyFrom 19 = .ok (.iconst 0, 1) := by decide +kernel
theorem dX7_copyFrom_20 : decode cX7_copyFrom 20 = .ok (.aload_n 0, 1) := by decide +kernel
theorem dX7_copyFrom_21 : decode cX7_copyFrom 21 = .ok (.getfield 13, 3) := by decide +kernel
theorem dX7_copyFrom_24 : decode cX7_copyFrom 24 = .ok (.iconst 0, 1) := by decide +kernel
theorem dX7_copyFrom_25 : decode cX7_copyFrom 25 = .ok (.bipush 16, 2) := by decide +kernel
theorem dX7_copyFrom_27 : decode cX7_copyFrom 27 = .ok (.invokestatic 16, 3) := by decide +kernel
theorem dX7_copyFrom_30 : decode cX7_copyFrom 30 = .ok (.aload_n 0, 1) := by decide +kernel
theorem dX7_copyFrom_31 : decode cX7_copyFrom 31 = .ok (.aload_n 1, 1) := by decide +kernel
theorem dX7_copyFrom_32 : decode cX7_copyFrom 32 = .ok (.getfield 22, 3) := by decide +kernel
theorem dX7_copyFrom_35 : decode cX7_copyFrom 35 = .ok (.putfield 22, 3) := by decide +kernel
theorem dX7_copyFrom_38 : decode cX7_copyFrom 38 = .ok (.aload_n 0, 1) := by decide +kernel
theorem dX7_copyFrom_39 : decode cX7_copyFrom 39 = .ok (.aload_n 1, 1) := by decide +kernel
theorem dX7_copyFrom_40 : decode cX7_copyFrom 40 = .ok (.getfield 26, 3) := by decide +kernel
theorem dX7_copyFrom_43 : decode cX7_copyFrom 43 = .ok (.putfield 26, 3) := by decide +kernel
theorem dX7_copyFrom_46 : decode cX7_copyFrom 46 = .ok (.return_, 1) := by decide +kernel
theorem dX7_add_0 : decode cX7_add 0 = .ok (.aload_n 0, 1) := by decide +kernel
theorem dX7_add_1 : decode cX7_add 1 = .ok (.getfield 9, 3) := by decide +kernel
theorem dX7_add_4 : decode cX7_add 4 = .ok (.aload_n 0, 1) := by decide +kernel
theorem dX7_add_5 : decode cX7_add 5 = .ok (.getfield 26, 3) := by decide +kernel
theorem dX7_add_8 : decode cX7_add 8 = .ok (.iload_n 1, 1) := by decide +kernel
theorem dX7_add_9 : decode cX7_add 9 = .ok (.iastore, 1) := by decide +kernel
theorem dX7_add_10 : decode cX7_add 10 = .ok (.aload_n 0, 1) := by decide +kernel
theorem dX7_add_11 : decode cX7_add 11 = .ok (.aload_n 0, 1) := by decide +kernel
theorem dX7_add_12 : decode cX7_add 12 = .ok (.getfield 26, 3) := by decide +kernel
theorem dX7_add_15 : decode cX7_add 15 = .ok (.iconst 1, 1) := by decide +kernel
theorem dX7_add_16 : decode cX7_add 16 = .ok (.iadd, 1) := by decide +kernel
theorem dX7_add_17 : decode cX7_add 17 = .ok (.bipush 16, 2) := by decide +kernel
theorem dX7_add_19 : decode cX7_add 19 = .ok (.irem, 1) := by decide +kernel
theorem dX7_add_20 : decode cX7_add 20 = .ok (.putfield 26, 3) := by decide +kernel
theorem dX7_add_23 : decode cX7_add 23 = .ok (.aload_n 0, 1) := by decide +kernel
theorem dX7_add_24 : decode cX7_add 24 = .ok (.bipush 16, 2) := by decide +kernel
theorem dX7_add_26 : decode cX7_add 26 = .ok (.aload_n 0, 1) := by decide +kernel
theorem dX7_add_27 : decode cX7_add 27 = .ok (.getfield 22, 3) := by decide +kernel
theorem dX7_add_30 : decode cX7_add 30 = .ok (.iconst 1, 1) := by decide +kernel
theorem dX7_add_31 : decode cX7_add 31 = .ok (.iadd, 1) := by decide +kernel
theorem dX7_add_32 : decode cX7_add 32 = .ok (.invokestatic 29, 3) := by decide +kernel
theorem dX7_add_35 : decode cX7_add 35 = .ok (.putfield 22, 3) := by decide +kernel
theorem dX7_add_38 : decode cX7_add 38 = .ok (.iconst 0, 1) := by decide +kernel
theorem dX7_add_39 : decode cX7_add 39 = .ok (.istore_n 2, 1) := by decide +kernel
theorem dX7_add_40 : decode cX7_add 40 = .ok (.iload_n 2, 1) := by decide +kernel
theorem dX7_add_41 : decode cX7_add 41 = .ok (.aload_n 0, 1) := by decide +kernel
theorem dX7_add_42 : decode cX7_add 42 = .ok (.getfield 22, 3) := by decide +kernel
theorem dX7_add_45 : decode cX7_add 45 = .ok (.if_icmp .ge 20, 3) := by decide +kernel
theorem dX7_add_48 : decode cX7_add 48 = .ok (.aload_n 0, 1) := by decide +kernel
theorem dX7_add_49 : decode cX7_add 49 = .ok (.aload_n 0, 1) := by decide +kernel
theorem dX7_add_50 : decode cX7_add 50 = .ok (.getfield 9, 3) := by decide +kernel
theorem dX7_add_53 : decode cX7_add 53 = .ok (.iload_n 2, 1) := by decide +kernel
theorem dX7_add_54 : decode cX7_add 54 = .ok (.iaload, 1) := by decide +kernel
theorem dX7_add_55 : decode cX7_add 55 = .ok (.iload_n 2, 1) := by decide +kernel
theorem dX7_add_56 : decode cX7_add 56 = .ok (.invokevirtual 35, 3) := by decide +kernel
theorem dX7_add_59 : decode cX7_add 59 = .ok (.iinc 2 1, 3) := by decide +kernel
theorem dX7_add_62 : decode cX7_add 62 = .ok (.goto (-22), 3) := by decide +kernel
theorem dX7_add_65 : decode cX7_add 65 = .ok (.return_, 1) := by decide +kernel
theorem dX7_ascendingAt_0 : decode cX7_ascendingAt 0 = .ok (.aload_n 0, 1) := by decide +kernel
theorem dX7_ascendingAt_1 : decode cX7_ascendingAt 1 = .ok (.getfield 13, 3) := by decide +kernel
theorem dX7_ascendingAt_4 : decode cX7_ascendingAt 4 = .ok (.iload_n 1, 1) := by decide +kernel
theorem dX7_ascendingAt_5 : decode cX7_ascendingAt 5 = .ok (.iaload, 1) := by decide +kernel
theorem dX7_ascendingAt_6 : decode cX7_ascendingAt 6 = .ok (.ireturn, 1) := by decide +kernel
theorem dX7_spread_0 : decode cX7_spread 0 = .ok (.aload_n 0, 1) := by decide +kernel
theorem dX7_spread_1 : decode cX7_spread 1 = .ok (.getfield 22, 3) := by decide +kernel
theorem dX7_spread_4 : decode cX7_spread 4 = .ok (.ifCond .ne 5, 3) := by decide +kernel
theorem dX7_spread_7 : decode cX7_spread 7 = .ok (.iconst 0, 1) := by decide +kernel
theorem dX7_spread_8 : decode cX7_spread 8 = .ok (.ireturn, 1) := by decide +kernel
theorem dX7_spread_9 : decode cX7_spread 9 = .ok (.aload_n 0, 1) := by decide +kernel
theorem dX7_spread_10 : decode cX7_spread 10 = .ok (.getfield 13, 3) := by decide +kernel
theorem dX7_spread_13 : decode cX7_spread 13 = .ok (.iload_n 1, 1) := by decide +kernel
theorem dX7_spread_14 : decode cX7_spread 14 = .ok (.aload_n 0, 1) := by decide +kernel
theorem dX7_spread_15 : decode cX7_spread 15 = .ok (.getfield 22, 3) := by decide +kernel
theorem dX7_spread_18 : decode cX7_spread 18 = .ok (.imul, 1) := by decide +kernel
theorem dX7_spread_19 : decode cX7_spread 19 = .ok (.bipush 99, 2) := by decide +kernel
theorem dX7_spread_21 : decode cX7_spread 21 = .ok (.iadd, 1) := by decide +kernel
theorem dX7_spread_22 : decode cX7_spread 22 = .ok (.bipush 100, 2) := by decide +kernel
theorem dX7_spread_24 : decode cX7_spread 24 = .ok (.idiv, 1) := by decide +kernel
theorem dX7_spread_25 : decode cX7_spread 25 = .ok (.iconst 1, 1) := by decide +kernel
theorem dX7_spread_26 : decode cX7_spread 26 = .ok (.isub, 1) := by decide +kernel
theorem dX7_spread_27 : decode cX7_spread 27 = .ok (.iaload, 1) := by decide +kernel
theorem dX7_spread_28 : decode cX7_spread 28 = .ok (.aload_n 0, 1) := by decide +kernel
theorem dX7_spread_29 : decode cX7_spread 29 = .ok (.getfield 13, 3) := by decide +kernel
theorem dX7_spread_32 : decode cX7_spread 32 = .ok (.iconst 0, 1) := by decide +kernel
theorem dX7_spread_33 : decode cX7_spread 33 = .ok (.iaload, 1) := by decide +kernel
theorem dX7_spread_34 : decode cX7_spread 34 = .ok (.isub, 1) := by decide +kernel
theorem dX7_spread_35 : decode cX7_spread 35 = .ok (.ireturn, 1) := by decide +kernel
theorem dX7_insert_0 : decode cX7_insert 0 = .ok (.iload_n 2, 1) := by decide +kernel
theorem dX7_insert_1 : decode cX7_insert 1 = .ok (.istore_n 3, 1) := by decide +kernel
theorem dX7_insert_2 : decode cX7_insert 2 = .ok (.iload_n 3, 1) := by decide +kernel
theorem dX7_insert_3 : decode cX7_insert 3 = .ok (.ifCond .le 35, 3) := by decide +kernel
theorem dX7_insert_6 : decode cX7_insert 6 = .ok (.aload_n 0, 1) := by decide +kernel
theorem dX7_insert_7 : decode cX7_insert 7 = .ok (.getfield 13, 3) := by decide +kernel
theorem dX7_insert_10 : decode cX7_insert 10 = .ok (.iload_n 3, 1) := by decide +kernel
theorem dX7_insert_11 : decode cX7_insert 11 = .ok (.iconst 1, 1) := by decide +kernel
theorem dX7_insert_12 : decode cX7_insert 12 = .ok (.isub, 1) := by decide +kernel
theorem dX7_insert_13 : decode cX7_insert 13 = .ok (.iaload, 1) := by decide +kernel
theorem dX7_insert_14 : decode cX7_insert 14 = .ok (.iload_n 1, 1) := by decide +kernel
theorem dX7_insert_15 : decode cX7_insert 15 = .ok (.if_icmp .le 23, 3) := by decide +kernel
theorem dX7_insert_18 : decode cX7_insert 18 = .ok (.aload_n 0, 1) := by decide +kernel
theorem dX7_insert_19 : decode cX7_insert 19 = .ok (.getfield 13, 3) := by decide +kernel
theorem dX7_insert_22 : decode cX7_insert 22 = .ok (.iload_n 3, 1) := by decide +kernel
theorem dX7_insert_23 : decode cX7_insert 23 = .ok (.aload_n 0, 1) := by decide +kernel
theorem dX7_insert_24 : decode cX7_insert 24 = .ok (.getfield 13, 3) := by decide +kernel
theorem dX7_insert_27 : decode cX7_insert 27 = .ok (.iload_n 3, 1) := by decide +kernel
theorem dX7_insert_28 : decode cX7_insert 28 = .ok (.iconst 1, 1) := by decide +kernel
theorem dX7_insert_29 : decode cX7_insert 29 = .ok (.isub, 1) := by decide +kernel
theorem dX7_insert_30 : decode cX7_insert 30 = .ok (.iaload, 1) := by decide +kernel
theorem dX7_insert_31 : decode cX7_insert 31 = .ok (.iastore, 1) := by decide +kernel
theorem dX7_insert_32 : decode cX7_insert 32 = .ok (.iinc 3 (-1), 3) := by decide +kernel
theorem dX7_insert_35 : decode cX7_insert 35 = .ok (.goto (-33), 3) := by decide +kernel
theorem dX7_insert_38 : decode cX7_insert 38 = .ok (.aload_n 0, 1) := by decide +kernel
theorem dX7_insert_39 : decode cX7_insert 39 = .ok (.getfield 13, 3) := by decide +kernel
theorem dX7_insert_42 : decode cX7_insert 42 = .ok (.iload_n 3, 1) := by decide +kernel
theorem dX7_insert_43 : decode cX7_insert 43 = .ok (.iload_n 1, 1) := by decide +kernel
theorem dX7_insert_44 : decode cX7_insert 44 = .ok (.iastore, 1) := by decide +kernel
theorem dX7_insert_45 : decode cX7_insert 45 = .ok (.return_, 1) := by decide +kernel
theorem dX8_init_0 : decode cX8_init 0 = .ok (.aload_n 0, 1) := by decide +kernel
theorem dX8_init_1 : decode cX8_init 1 = .ok (.invokespecial 1, 3) := by decide +kernel
theorem dX8_init_4 : decode cX8_init 4 = .ok (.aload_n 0, 1) := by decide +kernel
theorem dX8_init_5 : decode cX8_init 5 = .ok (.new 7, 3) := by decide +kernel
theorem dX8_init_8 : decode cX8_init 8 = .ok (.dup, 1) := by decide +kernel
theorem dX8_init_9 : decode cX8_init 9 = .ok (.invokespecial 9, 3) := by decide +kernel
theorem dX8_init_12 : decode cX8_init 12 = .ok (.putfield 10, 3) := by decide +kernel
theorem dX8_init_15 : decode cX8_init 15 = .ok (.aload_n 0, 1) := by decide +kernel
theorem dX8_init_16 : decode cX8_init 16 = .ok (.new 7, 3) := by decide +kernel
theorem dX8_init_19 : decode cX8_init 19 = .ok (.dup, 1) := by decide +kernel
theorem dX8_init_20 : decode cX8_init 20 = .ok (.invokespecial 9, 3) := by decide +kernel
theorem dX8_init_23 : decode cX8_init 23 = .ok (.putfield 16, 3) := by decide +kernel
theorem dX8_init_26 : decode cX8_init 26 = .ok (.aload_n 0, 1) := by decide +kernel
theorem dX8_init_27 : decode cX8_init 27 = .ok (.iconst 2, 1) := by decide +kernel
theorem dX8_init_28 : decode cX8_init 28 = .ok (.anewarray 7, 3) := by decide +kernel
theorem dX8_init_31 : decode cX8_init 31 = .ok (.putfield 19, 3) := by decide +kernel
theorem dX8_init_34 : decode cX8_init 34 = .ok (.aload_n 0, 1) := by decide +kernel
theorem dX8_init_35 : decode cX8_init 35 = .ok (.new 23, 3) := by decide +kernel
theorem dX8_init_38 : decode cX8_init 38 = .ok (.dup, 1) := by decide +kernel
theorem dX8_init_39 : decode cX8_init 39 = .ok (.invokespecial 25, 3) := by decide +kernel
theorem dX8_init_42 : decode cX8_init 42 = .ok (.putfield 26, 3) := by decide +kernel
theorem dX8_init_45 : decode cX8_init 45 = .ok (.aload_n 0, 1) := by decide +kernel
theorem dX8_init_46 : decode cX8_init 46 = .ok (.new 30, 3) := by decide +kernel
theorem dX8_init_49 : decode cX8_init 49 = .ok (.dup, 1) := by decide +kernel
theorem dX8_init_50 : decode cX8_init 50 = .ok (.invokespecial 32, 3) := by decide +kernel
theorem dX8_init_53 : decode cX8_init 53 = .ok (.putfield 33, 3) := by decide +kernel
theorem dX8_init_56 : decode cX8_init 56 = .ok (.return_, 1) := by decide +kernel
theorem dX8_setFrame_0 : decode cX8_setFrame 0 = .ok (.iload_n 1, 1) := by decide +kernel
theorem dX8_setFrame_1 : decode cX8_setFrame 1 = .ok (.iconst 4, 1) := by decide +kernel
theorem dX8_setFrame_2 : decode cX8_setFrame 2 = .ok (.if_icmp .lt 9, 3) := by decide +kernel
theorem dX8_setFrame_5 : decode cX8_setFrame 5 = .ok (.iload_n 1, 1) := by decide +kernel
theorem dX8_setFrame_6 : decode cX8_setFrame 6 = .ok (.bipush 16, 2) := by decide +kernel
theorem dX8_setFrame_8 : decode cX8_setFrame 8 = .ok (.if_icmp .le 7, 3) := by decide +kernel
theorem dX8_setFrame_11 : decode cX8_setFrame 11 = .ok (.sipush (-1001), 3) := by decide +kernel
theorem dX8_setFrame_14 : decode cX8_setFrame 14 = .ok (.ireturn, 1) := by decide +kernel
theorem dX8_setFrame_15 : decode cX8_setFrame 15 = .ok (.aload_n 0, 1) := by decide +kernel
theorem dX8_setFrame_16 : decode cX8_setFrame 16 = .ok (.getfield 10, 3) := by decide +kernel
theorem dX8_setFrame_19 : decode cX8_setFrame 19 = .ok (.invokevirtual 39, 3) := by decide +kernel
theorem dX8_setFrame_22 : decode cX8_setFrame 22 = .ok (.ifCond .eq 7, 3) := by decide +kernel
theorem dX8_setFrame_25 : decode cX8_setFrame 25 = .ok (.sipush (-1003), 3) := by decide +kernel
theorem dX8_setFrame_28 : decode cX8_setFrame 28 = .ok (.ireturn, 1) := by decide +kernel
theorem dX8_setFrame_29 : decode cX8_setFrame 29 = .ok (.aload_n 0, 1) := by decide +kernel
theorem dX8_setFrame_30 : decode cX8_setFrame 30 = .ok (.getfield 10, 3) := by decide +kernel
theorem dX8_setFrame_33 : decode cX8_setFrame 33 = .ok (.getfield 43, 3) := by decide +kernel
theorem dX8_setFrame_36 : decode cX8_setFrame 36 = .ok (.getfield 47, 3) := by decide +kernel
theorem dX8_setFrame_39 : decode cX8_setFrame 39 = .ok (.istore_n 2, 1) := by decide +kernel
theorem dX8_setFrame_40 : decode cX8_setFrame 40 = .ok (.aload_n 0, 1) := by decide +kernel
theorem dX8_setFrame_41 : decode cX8_setFrame 41 = .ok (.getfield 10, 3) := by decide +kernel
theorem dX8_setFrame_44 : decode cX8_setFrame 44 = .ok (.getfield 43, 3) := by decide +kernel
theorem dX8_setFrame_47 : decode cX8_setFrame 47 = .ok (.iload_n 1, 1) := by decide +kernel
theorem dX8_setFrame_48 : decode cX8_setFrame 48 = .ok (.putfield 47, 3) := by decide +kernel
theorem dX8_setFrame_51 : decode cX8_setFrame 51 = .ok (.iload_n 2, 1) := by decide +kernel
theorem dX8_setFrame_52 : decode cX8_setFrame 52 = .ok (.ireturn, 1) := by decide +kernel
theorem dX8_setWave_0 : decode cX8_setWave 0 = .ok (.iload_n 1, 1) := by decide +kernel
theorem dX8_setWave_1 : decode cX8_setWave 1 = .ok (.iconst 2, 1) := by decide +kernel
theorem dX8_setWave_2 : decode cX8_setWave 2 = .ok (.if_icmp .lt 21, 3) := by decide +kernel
theorem dX8_setWave_5 : decode cX8_setWave 5 = .ok (.iload_n 1, 1) := by decide +kernel
theorem dX8_setWave_6 : decode cX8_setWave 6 = .ok (.bipush 32, 2) := by decide +kernel
theorem dX8_setWave_8 : decode cX8_setWave 8 = .ok (.if_icmp .gt 15, 3) := by decide +kernel
theorem dX8_setWave_11 : decode cX8_setWave 11 = .ok (.iload_n 2, 1) := by decide +kernel
theorem dX8_setWave_12 : decode cX8_setWave 12 = .ok (.iconst 1, 1) := by decide +kernel
theorem dX8_setWave_13 : decode cX8_setWave 13 = .ok (.if_icmp .lt 10, 3) := by decide +kernel
theorem dX8_setWave_16 : decode cX8_setWave 16 = .ok (.iload_n 2, 1) := by decide +kernel
theorem dX8_setWave_17 : decode cX8_setWave 17 = .ok (.sipush 200, 3) := by decide +kernel
theorem dX8_setWave_20 : decode cX8_setWave 20 = .ok (.if_icmp .le 7, 3) := by decide +kernel
theorem dX8_setWave_23 : decode cX8_setWave 23 = .ok (.sipush (-1001), 3) := by decide +kernel
theorem dX8_setWave_26 : decode cX8_setWave 26 = .ok (.ireturn, 1) := by decide +kernel
theorem dX8_setWave_27 : decode cX8_setWave 27 = .ok (.aload_n 0, 1) := by decide +kernel
theorem dX8_setWave_28 : decode cX8_setWave 28 = .ok (.getfield 10, 3) := by decide +kernel
theorem dX8_setWave_31 : decode cX8_setWave 31 = .ok (.invokevirtual 39, 3) := by decide +kernel
theorem dX8_setWave_34 : decode cX8_setWave 34 = .ok (.ifCond .eq 7, 3) := by decide +kernel
theorem dX8_setWave_37 : decode cX8_setWave 37 = .ok (.sipush (-1003), 3) := by decide +kernel
theorem dX8_setWave_40 : decode cX8_setWave 40 = .ok (.ireturn, 1) := by decide +kernel
theorem dX8_setWave_41 : decode cX8_setWave 41 = .ok (.sipush 1000, 3) := by decide +kernel
theorem dX8_setWave_44 : decode cX8_setWave 44 = .ok (.aload_n 0, 1) := by decide +kernel
theorem dX8_setWave_45 : decode cX8_setWave 45 = .ok (.getfield 10, 3) := by decide +kernel
theorem dX8_setWave_48 : decode cX8_setWave 48 = .ok (.getfield 43, 3) := by decide +kernel
theorem dX8_setWave_51 : decode cX8_setWave 51 = .ok (.getfield 51, 3) := by decide +kernel
theorem dX8_setWave_54 : decode cX8_setWave 54 = .ok (.imul, 1) := by decide +kernel
theorem dX8_setWave_55 : decode cX8_setWave 55 = .ok (.aload_n 0, 1) := by decide +kernel
theorem dX8_setWave_56 : decode cX8_setWave 56 = .ok (.getfield 10, 3) := by decide +kernel
theorem dX8_setWave_59 : decode cX8_setWave 59 = .ok (.getfield 43, 3) := by decide +kernel
theorem dX8_setWave_62 : decode cX8_setWave 62 = .ok (.getfield 54, 3) := by decide +kernel
theorem dX8_setWave_65 : decode cX8_setWave 65 = .ok (.iadd, 1) := by decide +kernel
theorem dX8_setWave_66 : decode cX8_setWave 66 = .ok (.istore_n 3, 1) := by decide +kernel
theorem dX8_setWave_67 : decode cX8_setWave 67 = .ok (.aload_n 0, 1) := by decide +kernel
theorem dX8_setWave_68 : decode cX8_setWave 68 = .ok (.getfield 10, 3) := by decide +kernel
theorem dX8_setWave_71 : decode cX8_setWave 71 = .ok (.getfield 43, 3) := by decide +kernel
theorem dX8_setWave_74 : decode cX8_setWave 74 = .ok (.iload_n 1, 1) := by decide +kernel
theorem dX8_setWave_75 : decode cX8_setWave 75 = .ok (.putfield 51, 3) := by decide +kernel
theorem dX8_setWave_78 : decode cX8_setWave 78 = .ok (.aload_n 0, 1) := by decide +kernel
theorem dX8_setWave_79 : decode cX8_setWave 79 = .ok (.getfield 10, 3) := by decide +kernel
theorem dX8_setWave_82 : decode cX8_setWave 82 = .ok (.getfield 43, 3) := by decide +kernel
theorem dX8_setWave_85 : decode cX8_setWave 85 = .ok (.iload_n 2, 1) := by decide +kernel
theorem dX8_setWave_86 : decode cX8_setWave 86 = .ok (.putfield 54, 3) := by decide +kernel
theorem dX8_setWave_89 : decode cX8_setWave 89 = .ok (.iload_n 3, 1) := by decide +kernel
theorem dX8_setWave_90 : decode cX8_setWave 90 = .ok (.ireturn, 1) := by decide +kernel
theorem dX8_setBlock_0 : decode cX8_setBlock 0 = .ok (.iload_n 1, 1) := by decide +kernel
theorem dX8_setBlock_1 : decode cX8_setBlock 1 = .ok (.iconst 2, 1) := by decide +kernel
theorem dX8_setBlock_2 : decode cX8_setBlock 2 = .ok (.if_icmp .lt 20, 3) := by decide +kernel
theorem dX8_setBlock_5 : decode cX8_setBlock 5 = .ok (.iload_n 1, 1) := by decide +kernel
theorem dX8_setBlock_6 : decode cX8_setBlock 6 = .ok (.bipush 6, 2) := by decide +kernel
theorem dX8_setBlock_8 : decode cX8_setBlock 8 = .ok (.if_icmp .gt 14, 3) := by decide +kernel
theorem dX8_setBlock_11 : decode cX8_setBlock 11 = .ok (.iload_n 2, 1) := by decide +kernel
theorem dX8_setBlock_12 : decode cX8_setBlock 12 = .ok (.iconst 2, 1) := by decide +kernel
theorem dX8_setBlock_13 : decode cX8_setBlock 13 = .ok (.if_icmp .lt 9, 3) := by decide +kernel
theorem dX8_setBlock_16 : decode cX8_setBlock 16 = .ok (.iload_n 2, 1) := by decide +kernel
theorem dX8_setBlock_17 : decode cX8_setBlock 17 = .ok (.bipush 6, 2) := by decide +kernel
theorem dX8_setBlock_19 : decode cX8_setBlock 19 = .ok (.if_icmp .le 7, 3) := by decide +kernel
theorem dX8_setBlock_22 : decode cX8_setBlock 22 = .ok (.sipush (-1001), 3) := by decide +kernel
theorem dX8_setBlock_25 : decode cX8_setBlock 25 = .ok (.ireturn, 1) := by decide +kernel
theorem dX8_setBlock_26 : decode cX8_setBlock 26 = .ok (.aload_n 0, 1) := by decide +kernel
theorem dX8_setBlock_27 : decode cX8_setBlock 27 = .ok (.getfield 10, 3) := by decide +kernel
theorem dX8_setBlock_30 : decode cX8_setBlock 30 = .ok (.invokevirtual 39, 3) := by decide +kernel
theorem dX8_setBlock_33 : decode cX8_setBlock 33 = .ok (.ifCond .eq 7, 3) := by decide +kernel
theorem dX8_setBlock_36 : decode cX8_setBlock 36 = .ok (.sipush (-1003), 3) := by decide +kernel
theorem dX8_setBlock_39 : decode cX8_setBlock 39 = .ok (.ireturn, 1) := by decide +kernel
theorem dX8_setBlock_40 : decode cX8_setBlock 40 = .ok (.bipush 10, 2) := by decide +kernel
theorem dX8_setBlock_42 : decode cX8_setBlock 42 = .ok (.aload_n 0, 1) := by decide +kernel
theorem dX8_setBlock_43 : decode cX8_setBlock 43 = .ok (.getfield 10, 3) := by decide +kernel
theorem dX8_setBlock_46 : decode cX8_setBlock 46 = .ok (.getfield 43, 3) := by decide +kernel
theorem dX8_setBlock_49 : decode cX8_setBlock 49 = .ok (.getfield 57, 3) := by decide +kernel
theorem dX8_setBlock_52 : decode cX8_setBlock 52 = .ok (.imul, 1) := by decide +kernel
theorem dX8_setBlock_53 : decode cX8_setBlock 53 = .ok (.aload_n 0, 1) := by decide +kernel
theorem dX8_setBlock_54 : decode cX8_setBlock 54 = .ok (.getfield 10, 3) := by decide +kernel
theorem dX8_setBlock_57 : decode cX8_setBlock 57 = .ok (.getfield 43, 3) := by decide +kernel
theorem dX8_setBlock_60 : decode cX8_setBlock 60 = .ok (.getfield 60, 3) := by decide +kernel
theorem dX8_setBlock_63 : decode cX8_setBlock 63 = .ok (.iadd, 1) := by decide +kernel
theorem dX8_setBlock_64 : decode cX8_setBlock 64 = .ok (.istore_n 3, 1) := by decide +kernel
theorem dX8_setBlock_65 : decode cX8_setBlock 65 = .ok (.aload_n 0, 1) := by decide +kernel
theorem dX8_setBlock_66 : decode cX8_setBlock 66 = .ok (.getfield 10, 3) := by decide +kernel
theorem dX8_setBlock_69 : decode cX8_setBlock 69 = .ok (.getfield 43, 3) := by decide +kernel
theorem dX8_setBlock_72 : decode cX8_setBlock 72 = .ok (.iload_n 1, 1) := by decide +kernel
theorem dX8_setBlock_73 : decode cX8_setBlock 73 = .ok (.putfield 57, 3) := by decide +kernel
theorem dX8_setBlock_76 : decode cX8_setBlock 76 = .ok (.aload_n 0, 1) := by decide +kernel
theorem dX8_setBlock_77 : decode cX8_setBlock 77 = .ok (.getfield 10, 3) := by decide +kernel
theorem dX8_setBlock_80 : decode cX8_setBlock 80 = .ok (.getfield 43, 3) := by decide +kernel
theorem dX8_setBlock_83 : decode cX8_setBlock 83 = .ok (.iload_n 2, 1) := by decide +kernel
theorem dX8_setBlock_84 : decode cX8_setBlock 84 = .ok (.putfield 60, 3) := by decide +kernel
theorem dX8_setBlock_87 : decode cX8_setBlock 87 = .ok (.iload_n 3, 1) := by decide +kernel
theorem dX8_setBlock_88 : decode cX8_setBlock 88 = .ok (.ireturn, 1) := by decide +kernel
theorem dX8_setInitialDelay_0 : decode cX8_setInitialDelay 0 = .ok (.iload_n 1, 1) := by decide +kernel
theorem dX8_setInitialDelay_1 : decode cX8_setInitialDelay 1 = .ok (.ifCond .lt 10, 3) := by decide +kernel
theorem dX8_setInitialDelay_4 : decode cX8_setInitialDelay 4 = .ok (.iload_n 1, 1) := by decide +kernel
theorem dX8_setInitialDelay_5 : decode cX8_setInitialDelay 5 = .ok (.sipush 200, 3) := by decide +kernel
theorem dX8_setInitialDelay_8 : decode cX8_setInitialDelay 8 = .ok (.if_icmp .le 7, 3) := by decide +kernel
theorem dX8_setInitialDelay_11 : decode cX8_setInitialDelay 11 = .ok (.sipush (-1001), 3) := by decide +kernel
theorem dX8_setInitialDelay_14 : decode cX8_setInitialDelay 14 = .ok (.ireturn, 1) := by decide +kernel
theorem dX8_setInitialDelay_15 : decode cX8_setInitialDelay 15 = .ok (.aload_n 0, 1) := by decide +kernel
theorem dX8_setInitialDelay_16 : decode cX8_setInitialDelay 16 = .ok (.getfield 10, 3) := by decide +kernel
theorem dX8_setInitialDelay_19 : decode cX8_setInitialDelay 19 = .ok (.invokevirtual 39, 3) := by decide +kernel
theorem dX8_setInitialDelay_22 : decode cX8_setInitialDelay 22 = .ok (.ifCond .eq 7, 3) := by decide +kernel
theorem dX8_setInitialDelay_25 : decode cX8_setInitialDelay 25 = .ok (.sipush (-1003), 3) := by decide +kernel
theorem dX8_setInitialDelay_28 : decode cX8_setInitialDelay 28 = .ok (.ireturn, 1) := by decide +kernel
theorem dX8_setInitialDelay_29 : decode cX8_setInitialDelay 29 = .ok (.aload_n 0, 1) := by decide +kernel
theorem dX8_setInitialDelay_30 : decode cX8_setInitialDelay 30 = .ok (.getfield 10, 3) := by decide +kernel
theorem dX8_setInitialDelay_33 : decode cX8_setInitialDelay 33 = .ok (.getfield 43, 3) := by decide +kernel
theorem dX8_setInitialDelay_36 : decode cX8_setInitialDelay 36 = .ok (.getfield 63, 3) := by decide +kernel
theorem dX8_setInitialDelay_39 : decode cX8_setInitialDelay 39 = .ok (.istore_n 2, 1) := by decide +kernel
theorem dX8_setInitialDelay_40 : decode cX8_setInitialDelay 40 = .ok (.aload_n 0, 1) := by decide +kernel
theorem dX8_setInitialDelay_41 : decode cX8_setInitialDelay 41 = .ok (.getfield 10, 3) := by decide +kernel
theorem dX8_setInitialDelay_44 : decode cX8_setInitialDelay 44 = .ok (.getfield 43, 3) := by decide +kernel
theorem dX8_setInitialDelay_47 : decode cX8_setInitialDelay 47 = .ok (.iload_n 1, 1) := by decide +kernel
theorem dX8_setInitialDelay_48 : decode cX8_setInitialDelay 48 = .ok (.putfield 63, 3) := by decide +kernel
theorem dX8_setInitialDelay_51 : decode cX8_setInitialDelay 51 = .ok (.iload_n 2, 1) := by decide +kernel
theorem dX8_setInitialDelay_52 : decode cX8_setInitialDelay 52 = .ok (.ireturn, 1) := by decide +kernel
theorem dX8_setQuantile_0 : decode cX8_setQuantile 0 = .ok (.iload_n 1, 1) := by decide +kernel
theorem dX8_setQuantile_1 : decode cX8_setQuantile 1 = .ok (.iconst 1, 1) := by decide +kernel
theorem dX8_setQuantile_2 : decode cX8_setQuantile 2 = .ok (.if_icmp .lt 9, 3) := by decide +kernel
theorem dX8_setQuantile_5 : decode cX8_setQuantile 5 = .ok (.iload_n 1, 1) := by decide +kernel
theorem dX8_setQuantile_6 : decode cX8_setQuantile 6 = .ok (.bipush 100, 2) := by decide +kernel
theorem dX8_setQuantile_8 : decode cX8_setQuantile 8 = .ok (.if_icmp .le 7, 3) := by decide +kernel
theorem dX8_setQuantile_11 : decode cX8_setQuantile 11 = .ok (.sipush (-1001), 3) := by decide +kernel
theorem dX8_setQuantile_14 : decode cX8_setQuantile 14 = .ok (.ireturn, 1) := by decide +kernel
theorem dX8_setQuantile_15 : decode cX8_setQuantile 15 = .ok (.aload_n 0, 1) := by decide +kernel
theorem dX8_setQuantile_16 : decode cX8_setQuantile 16 = .ok (.getfield 10, 3) := by decide +kernel
theorem dX8_setQuantile_19 : decode cX8_setQuantile 19 = .ok (.getfield 43, 3) := by decide +kernel
theorem dX8_setQuantile_22 : decode cX8_setQuantile 22 = .ok (.getfield 66, 3) := by decide +kernel
theorem dX8_setQuantile_25 : decode cX8_setQuantile 25 = .ok (.istore_n 2, 1) := by decide +kernel
theorem dX8_setQuantile_26 : decode cX8_setQuantile 26 = .ok (.aload_n 0, 1) := by decide +kernel
theorem dX8_setQuantile_27 : decode cX8_setQuantile 27 = .ok (.getfield 10, 3) := by decide +kernel
theorem dX8_setQuantile_30 : decode cX8_setQuantile 30 = .ok (.getfield 43, 3) := by decide +kernel
theorem dX8_setQuantile_33 : decode cX8_setQuantile 33 = .ok (.iload_n 1, 1) := by decide +kernel
theorem dX8_setQuantile_34 : decode cX8_setQuantile 34 = .ok (.putfield 66, 3) := by decide +kernel
theorem dX8_setQuantile_37 : decode cX8_setQuantile 37 = .ok (.iload_n 2, 1) := by decide +kernel
theorem dX8_setQuantile_38 : decode cX8_setQuantile 38 = .ok (.ireturn, 1) := by decide +kernel
theorem dX8_setMargin_0 : decode cX8_setMargin 0 = .ok (.iload_n 1, 1) := by decide +kernel
theorem dX8_setMargin_1 : decode cX8_setMargin 1 = .ok (.ifCond .lt 9, 3) := by decide +kernel
theorem dX8_setMargin_4 : decode cX8_setMargin 4 = .ok (.iload_n 1, 1) := by decide +kernel
theorem dX8_setMargin_5 : decode cX8_setMargin 5 = .ok (.bipush 100, 2) := by decide +kernel
theorem dX8_setMargin_7 : decode cX8_setMargin 7 = .ok (.if_icmp .le 7, 3) := by decide +kernel
theorem dX8_setMargin_10 : decode cX8_setMargin 10 = .ok (.sipush (-1001), 3) := by decide +kernel
theorem dX8_setMargin_13 : decode cX8_setMargin 13 = .ok (.ireturn, 1) := by decide +kernel
theorem dX8_setMargin_14 : decode cX8_setMargin 14 = .ok (.aload_n 0, 1) := by decide +kernel
theorem dX8_setMargin_15 : decode cX8_setMargin 15 = .ok (.getfield 10, 3) := by decide +kernel
theorem dX8_setMargin_18 : decode cX8_setMargin 18 = .ok (.getfield 43, 3) := by decide +kernel
theorem dX8_setMargin_21 : decode cX8_setMargin 21 = .ok (.getfield 69, 3) := by decide +kernel
theorem dX8_setMargin_24 : decode cX8_setMargin 24 = .ok (.istore_n 2, 1) := by decide +kernel
theorem dX8_setMargin_25 : decode cX8_setMargin 25 = .ok (.aload_n 0, 1) := by decide +kernel
theorem dX8_setMargin_26 : decode cX8_setMargin 26 = .ok (.getfield 10, 3) := by decide +kernel
theorem dX8_setMargin_29 : decode cX8_setMargin 29 = .ok (.getfield 43, 3) := by decide +kernel
theorem dX8_setMargin_32 : decode cX8_setMargin 32 = .ok (.iload_n 1, 1) := by decide +kernel
theorem dX8_setMargin_33 : decode cX8_setMargin 33 = .ok (.putfield 69, 3) := by decide +kernel
theorem dX8_setMargin_36 : decode cX8_setMargin 36 = .ok (.iload_n 2, 1) := by decide +kernel
theorem dX8_setMargin_37 : decode cX8_setMargin 37 = .ok (.ireturn, 1) := by decide +kernel
theorem dX8_setAdapting_0 : decode cX8_setAdapting 0 = .ok (.aload_n 0, 1) := by decide +kernel
theorem dX8_setAdapting_1 : decode cX8_setAdapting 1 = .ok (.getfield 10, 3) := by decide +kernel
theorem dX8_setAdapting_4 : decode cX8_setAdapting 4 = .ok (.getfield 43, 3) := by decide +kernel
theorem dX8_setAdapting_7 : decode cX8_setAdapting 7 = .ok (.getfield 72, 3) := by decide +kernel
theorem dX8_setAdapting_10 : decode cX8_setAdapting 10 = .ok (.ifCond .eq 7, 3) := by decide +kernel
theorem dX8_setAdapting_13 : decode cX8_setAdapting 13 = .ok (.iconst 1, 1) := by decide +kernel
theorem dX8_setAdapting_14 : decode cX8_setAdapting 14 = .ok (.goto 4, 3) := by decide +kernel
theorem dX8_setAdapting_17 : decode cX8_setAdapting 17 = .ok (.iconst 0, 1) := by decide +kernel
theorem dX8_setAdapting_18 : decode cX8_setAdapting 18 = .ok (.istore_n 2, 1) := by decide +kernel
theorem dX8_setAdapting_19 : decode cX8_setAdapting 19 = .ok (.aload_n 0, 1) := by decide +kernel
theorem dX8_setAdapting_20 : decode cX8_setAdapting 20 = .ok (.getfield 10, 3) := by decide +kernel
theorem dX8_setAdapting_23 : decode cX8_setAdapting 23 = .ok (.getfield 43, 3) := by decide +kernel
theorem dX8_setAdapting_26 : decode cX8_setAdapting 26 = .ok (.iload_n 1, 1) := by decide +kernel
theorem dX8_setAdapting_27 : decode cX8_setAdapting 27 = .ok (.putfield 72, 3) := by decide +kernel
theorem dX8_setAdapting_30 : decode cX8_setAdapting 30 = .ok (.iload_n 2, 1) := by decide +kernel
theorem dX8_setAdapting_31 : decode cX8_setAdapting 31 = .ok (.ireturn, 1) := by decide +kernel
theorem dX8_arrive_0 : decode cX8_arrive 0 = .ok (.iload_n 1, 1) := by decide +kernel
theorem dX8_arrive_1 : decode cX8_arrive 1 = .ok (.invokestatic 76, 3) := by decide +kernel
theorem dX8_arrive_4 : decode cX8_arrive 4 = .ok (.ifCond .ne 7, 3) := by decide +kernel
theorem dX8_arrive_7 : decode cX8_arrive 7 = .ok (.sipush (-1001), 3) := by decide +kernel
theorem dX8_arrive_10 : decode cX8_arrive 10 = .ok (.ireturn, 1) := by decide +kernel
theorem dX8_arrive_11 : decode cX8_arrive 11 = .ok (.aload_n 0, 1) := by decide +kernel
theorem dX8_arrive_12 : decode cX8_arrive 12 = .ok (.getfield 10, 3) := by decide +kernel
theorem dX8_arrive_15 : decode cX8_arrive 15 = .ok (.iload_n 1, 1) := by decide +kernel
theorem dX8_arrive_16 : decode cX8_arrive 16 = .ok (.invokevirtual 80, 3) := by decide +kernel
theorem dX8_arrive_19 : decode cX8_arrive 19 = .ok (.ireturn, 1) := by decide +kernel
theorem dX8_arriveParity_0 : decode cX8_arriveParity 0 = .ok (.aload_n 0, 1) := by decide +kernel
theorem dX8_arriveParity_1 : decode cX8_arriveParity 1 = .ok (.getfield 10, 3) := by decide +kernel
theorem dX8_arriveParity_4 : decode cX8_arriveParity 4 = .ok (.getfield 43, 3) := by decide +kernel
theorem dX8_arriveParity_7 : decode cX8_arriveParity 7 = .ok (.iload_n 1, 1) := by decide +kernel
theorem dX8_arriveParity_8 : decode cX8_arriveParity 8 = .ok (.iload_n 2, 1) := by decide +kernel
theorem dX8_arriveParity_9 : decode cX8_arriveParity 9 = .ok (.iload_n 3, 1) := by decide +kernel
theorem dX8_arriveParity_10 : decode cX8_arriveParity 10 = .ok (.invokevirtual 84, 3) := by decide +kernel
theorem dX8_arriveParity_13 : decode cX8_arriveParity 13 = .ok (.ifCond .ne 7, 3) := by decide +kernel
theorem dX8_arriveParity_16 : decode cX8_arriveParity 16 = .ok (.sipush (-1001), 3) := by decide +kernel
theorem dX8_arriveParity_19 : decode cX8_arriveParity 19 = .ok (.ireturn, 1) := by decide +kernel
theorem dX8_arriveParity_20 : decode cX8_arriveParity 20 = .ok (.aload_n 0, 1) := by decide +kernel
theorem dX8_arriveParity_21 : decode cX8_arriveParity 21 = .ok (.getfield 10, 3) := by decide +kernel
theorem dX8_arriveParity_24 : decode cX8_arriveParity 24 = .ok (.iload_n 1, 1) := by decide +kernel
theorem dX8_arriveParity_25 : decode cX8_arriveParity 25 = .ok (.iload_n 2, 1) := by decide +kernel
theorem dX8_arriveParity_26 : decode cX8_arriveParity 26 = .ok (.iload_n 3, 1) := by decide +kernel
theorem dX8_arriveParity_27 : decode cX8_arriveParity 27 = .ok (.invokevirtual 88, 3) := by decide +kernel
theorem dX8_arriveParity_30 : decode cX8_arriveParity 30 = .ok (.ireturn, 1) := by decide +kernel
theorem dX8_advance_0 : decode cX8_advance 0 = .ok (.iload_n 1, 1) := by decide +kernel
theorem dX8_advance_1 : decode cX8_advance 1 = .ok (.iconst 1, 1) := by decide +kernel
theorem dX8_advance_2 : decode cX8_advance 2 = .ok (.if_icmp .lt 10, 3) := by decide +kernel
theorem dX8_advance_5 : decode cX8_advance 5 = .ok (.iload_n 1, 1) := by decide +kernel
theorem dX8_advance_6 : decode cX8_advance 6 = .ok (.sipush 500, 3) := by decide +kernel
theorem dX8_advance_9 : decode cX8_advance 9 = .ok (.if_icmp .le 7, 3) := by decide +kernel
theorem dX8_advance_12 : decode cX8_advance 12 = .ok (.sipush (-1001), 3) := by decide +kernel
theorem dX8_advance_15 : decode cX8_advance 15 = .ok (.ireturn, 1) := by decide +kernel
theorem dX8_advance_16 : decode cX8_advance 16 = .ok (.aload_n 0, 1) := by decide +kernel
theorem dX8_advance_17 : decode cX8_advance 17 = .ok (.getfield 10, 3) := by decide +kernel
theorem dX8_advance_20 : decode cX8_advance 20 = .ok (.getfield 92, 3) := by decide +kernel
theorem dX8_advance_23 : decode cX8_advance 23 = .ok (.getfield 96, 3) := by decide +kernel
theorem dX8_advance_26 : decode cX8_advance 26 = .ok (.istore_n 2, 1) := by decide +kernel
theorem dX8_advance_27 : decode cX8_advance 27 = .ok (.iconst 0, 1) := by decide +kernel
theorem dX8_advance_28 : decode cX8_advance 28 = .ok (.istore_n 3, 1) := by decide +kernel
theorem dX8_advance_29 : decode cX8_advance 29 = .ok (.iload_n 3, 1) := by decide +kernel
theorem dX8_advance_30 : decode cX8_advance 30 = .ok (.iload_n 1, 1) := by decide +kernel
theorem dX8_advance_31 : decode cX8_advance 31 = .ok (.if_icmp .ge 16, 3) := by decide +kernel
theorem dX8_advance_34 : decode cX8_advance 34 = .ok (.aload_n 0, 1) := by decide +kernel
theorem dX8_advance_35 : decode cX8_advance 35 = .ok (.getfield 10, 3) := by decide +kernel
theorem dX8_advance_38 : decode cX8_advance 38 = .ok (.invokevirtual 101, 3) := by decide +kernel
theorem dX8_advance_41 : decode cX8_advance 41 = .ok (.iinc 3 1, 3) := by decide +kernel
theorem dX8_advance_44 : decode cX8_advance 44 = .ok (.goto (-15), 3) := by decide +kernel
theorem dX8_advance_47 : decode cX8_advance 47 = .ok (.aload_n 0, 1) := by decide +kernel
theorem dX8_advance_48 : decode cX8_advance 48 = .ok (.getfield 10, 3) := by decide +kernel
theorem dX8_advance_51 : decode cX8_advance 51 = .ok (.getfield 92, 3) := by decide +kernel
theorem dX8_advance_54 : decode cX8_advance 54 = .ok (.getfield 96, 3) := by decide +kernel
theorem dX8_advance_57 : decode cX8_advance 57 = .ok (.iload_n 2, 1) := by decide +kernel
theorem dX8_advance_58 : decode cX8_advance 58 = .ok (.isub, 1) := by decide +kernel
theorem dX8_advance_59 : decode cX8_advance 59 = .ok (.ireturn, 1) := by decide +kernel
theorem dX8_time_0 : decode cX8_time 0 = .ok (.aload_n 0, 1) := by decide +kernel
theorem dX8_time_1 : decode cX8_time 1 = .ok (.getfield 10, 3) := by decide +kernel
theorem dX8_time_4 : decode cX8_time 4 = .ok (.getfield 104, 3) := by decide +kernel
theorem dX8_time_7 : decode cX8_time 7 = .ok (.ireturn, 1) := by decide +kernel
theorem dX8_start_0 : decode cX8_start 0 = .ok (.aload_n 0, 1) := by decide +kernel
theorem dX8_start_1 : decode cX8_start 1 = .ok (.getfield 10, 3) := by decide +kernel
theorem dX8_start_4 : decode cX8_start 4 = .ok (.getfield 107, 3) := by decide +kernel
theorem dX8_start_7 : decode cX8_start 7 = .ok (.ifCond .eq 13, 3) := by decide +kernel
theorem dX8_start_10 : decode cX8_start 10 = .ok (.aload_n 0, 1) := by decide +kernel
theorem dX8_start_11 : decode cX8_start 11 = .ok (.getfield 10, 3) := by decide +kernel
theorem dX8_start_14 : decode cX8_start 14 = .ok (.getfield 110, 3) := by decide +kernel
theorem dX8_start_17 : decode cX8_start 17 = .ok (.goto 6, 3) := by decide +kernel
theorem dX8_start_20 : decode cX8_start 20 = .ok (.sipush (-1004), 3) := by decide +kernel
theorem dX8_start_23 : decode cX8_start 23 = .ok (.ireturn, 1) := by decide +kernel
theorem dX8_output_0 : decode cX8_output 0 = .ok (.iload_n 1, 1) := by decide +kernel
theorem dX8_output_1 : decode cX8_output 1 = .ok (.iconst 1, 1) := by decide +kernel
theorem dX8_output_2 : decode cX8_output 2 = .ok (.if_icmp .lt 10, 3) := by decide +kernel
theorem dX8_output_5 : decode cX8_output 5 = .ok (.iload_n 1, 1) := by decide +kernel
theorem dX8_output_6 : decode cX8_output 6 = .ok (.sipush 256, 3) := by decide +kernel
theorem dX8_output_9 : decode cX8_output 9 = .ok (.if_icmp .le 7, 3) := by decide +kernel
theorem dX8_output_12 : decode cX8_output 12 = .ok (.sipush (-1001), 3) := by decide +kernel
theorem dX8_output_15 : decode cX8_output 15 = .ok (.ireturn, 1) := by decide +kernel
theorem dX8_output_16 : decode cX8_output 16 = .ok (.iload_n 1, 1) := by decide +kernel
theorem dX8_output_17 : decode cX8_output 17 = .ok (.aload_n 0, 1) := by decide +kernel
theorem dX8_output_18 : decode cX8_output 18 = .ok (.getfield 10, 3) := by decide +kernel
theorem dX8_output_21 : decode cX8_output 21 = .ok (.getfield 92, 3) := by decide +kernel
theorem dX8_output_24 : decode cX8_output 24 = .ok (.getfield 96, 3) := by decide +kernel
theorem dX8_output_27 : decode cX8_output 27 = .ok (.if_icmp .le 9, 3) := by decide +kernel
theorem dX8_output_30 : decode cX8_output 30 = .ok (.sipush (-1004), 3) := by decide +kernel
theorem dX8_output_33 : decode cX8_output 33 = .ok (.goto 14, 3) := by decide +kernel
theorem dX8_output_36 : decode cX8_output 36 = .ok (.aload_n 0, 1) := by decide +kernel
theorem dX8_output_37 : decode cX8_output 37 = .ok (.getfield 10, 3) := by decide +kernel
theorem dX8_output_40 : decode cX8_output 40 = .ok (.getfield 92, 3) := by decide +kernel
theorem dX8_output_43 : decode cX8_output 43 = .ok (.iload_n 1, 1) := by decide +kernel
theorem dX8_output_44 : decode cX8_output 44 = .ok (.invokevirtual 113, 3) := by decide +kernel
theorem dX8_output_47 : decode cX8_output 47 = .ok (.ireturn, 1) := by decide +kernel
theorem dX8_outputs_0 : decode cX8_outputs 0 = .ok (.aload_n 0, 1) := by decide +kernel
theorem dX8_outputs_1 : decode cX8_outputs 1 = .ok (.getfield 10, 3) := by decide +kernel
theorem dX8_outputs_4 : decode cX8_outputs 4 = .ok (.getfield 92, 3) := by decide +kernel
theorem dX8_outputs_7 : decode cX8_outputs 7 = .ok (.getfield 96, 3) := by decide +kernel
theorem dX8_outputs_10 : decode cX8_outputs 10 = .ok (.ireturn, 1) := by decide +kernel
theorem dX8_left_0 : decode cX8_left 0 = .ok (.aload_n 0, 1) := by decide +kernel
theorem dX8_left_1 : decode cX8_left 1 = .ok (.getfield 10, 3) := by decide +kernel
theorem dX8_left_4 : decode cX8_left 4 = .ok (.getfield 92, 3) := by decide +kernel
theorem dX8_left_7 : decode cX8_left 7 = .ok (.invokevirtual 116, 3) := by decide +kernel
theorem dX8_left_10 : decode cX8_left 10 = .ok (.ireturn, 1) := by decide +kernel
theorem dX8_next_0 : decode cX8_next 0 = .ok (.aload_n 0, 1) := by decide +kernel
theorem dX8_next_1 : decode cX8_next 1 = .ok (.getfield 10, 3) := by decide +kernel
theorem dX8_next_4 : decode cX8_next 4 = .ok (.getfield 92, 3) := by decide +kernel
theorem dX8_next_7 : decode cX8_next 7 = .ok (.getfield 120, 3) := by decide +kernel
theorem dX8_next_10 : decode cX8_next 10 = .ok (.sipush 999, 3) := by decide +kernel
theorem dX8_next_13 : decode cX8_next 13 = .ok (.if_icmp .le 9, 3) := by decide +kernel
theorem dX8_next_16 : decode cX8_next 16 = .ok (.sipush (-1004), 3) := by decide +kernel
theorem dX8_next_19 : decode cX8_next 19 = .ok (.goto 13, 3) := by decide +kernel
theorem dX8_next_22 : decode cX8_next 22 = .ok (.aload_n 0, 1) := by decide +kernel
theorem dX8_next_23 : decode cX8_next 23 = .ok (.getfield 10, 3) := by decide +kernel
theorem dX8_next_26 : decode cX8_next 26 = .ok (.getfield 92, 3) := by decide +kernel
theorem dX8_next_29 : decode cX8_next 29 = .ok (.getfield 120, 3) := by decide +kernel
theorem dX8_next_32 : decode cX8_next 32 = .ok (.ireturn, 1) := by decide +kernel
theorem dX8_kind_0 : decode cX8_kind 0 = .ok (.iload_n 1, 1) := by decide +kernel
theorem dX8_kind_1 : decode cX8_kind 1 = .ok (.iconst 1, 1) := by decide +kernel
theorem dX8_kind_2 : decode cX8_kind 2 = .ok (.if_icmp .lt 9, 3) := by decide +kernel
theorem dX8_kind_5 : decode cX8_kind 5 = .ok (.iload_n 1, 1) := by decide +kernel
theorem dX8_kind_6 : decode cX8_kind 6 = .ok (.bipush 32, 2) := by decide +kernel
theorem dX8_kind_8 : decode cX8_kind 8 = .ok (.if_icmp .le 7, 3) := by decide +kernel
theorem dX8_kind_11 : decode cX8_kind 11 = .ok (.sipush (-1001), 3) := by decide +kernel
theorem dX8_kind_14 : decode cX8_kind 14 = .ok (.ireturn, 1) := by decide +kernel
theorem dX8_kind_15 : decode cX8_kind 15 = .ok (.iload_n 1, 1) := by decide +kernel
theorem dX8_kind_16 : decode cX8_kind 16 = .ok (.aload_n 0, 1) := by decide +kernel
theorem dX8_kind_17 : decode cX8_kind 17 = .ok (.getfield 10, 3) := by decide +kernel
theorem dX8_kind_20 : decode cX8_kind 20 = .ok (.getfield 92, 3) := by decide +kernel
theorem dX8_kind_23 : decode cX8_kind 23 = .ok (.getfield 120, 3) := by decide +kernel
theorem dX8_kind_26 : decode cX8_kind 26 = .ok (.if_icmp .le 9, 3) := by decide +kernel
theorem dX8_kind_29 : decode cX8_kind 29 = .ok (.sipush (-1004), 3) := by decide +kernel
theorem dX8_kind_32 : decode cX8_kind 32 = .ok (.goto 14, 3) := by decide +kernel
theorem dX8_kind_35 : decode cX8_kind 35 = .ok (.aload_n 0, 1) := by decide +kernel
theorem dX8_kind_36 : decode cX8_kind 36 = .ok (.getfield 10, 3) := by decide +kernel
theorem dX8_kind_39 : decode cX8_kind 39 = .ok (.getfield 92, 3) := by decide +kernel
theorem dX8_kind_42 : decode cX8_kind 42 = .ok (.iload_n 1, 1) := by decide +kernel
theorem dX8_kind_43 : decode cX8_kind 43 = .ok (.invokevirtual 123, 3) := by decide +kernel
theorem dX8_kind_46 : decode cX8_kind 46 = .ok (.ireturn, 1) := by decide +kernel
theorem dX8_state_0 : decode cX8_state 0 = .ok (.iload_n 1, 1) := by decide +kernel
theorem dX8_state_1 : decode cX8_state 1 = .ok (.invokestatic 76, 3) := by decide +kernel
theorem dX8_state_4 : decode cX8_state 4 = .ok (.ifCond .ne 7, 3) := by decide +kernel
theorem dX8_state_7 : decode cX8_state 7 = .ok (.sipush (-1001), 3) := by decide +kernel
theorem dX8_state_10 : decode cX8_state 10 = .ok (.ireturn, 1) := by decide +kernel
theorem dX8_state_11 : decode cX8_state 11 = .ok (.aload_n 0, 1) := by decide +kernel
theorem dX8_state_12 : decode cX8_state 12 = .ok (.getfield 10, 3) := by decide +kernel
theorem dX8_state_15 : decode cX8_state 15 = .ok (.getfield 126, 3) := by decide +kernel
theorem dX8_state_18 : decode cX8_state 18 = .ok (.aload_n 0, 1) := by decide +kernel
theorem dX8_state_19 : decode cX8_state 19 = .ok (.getfield 10, 3) := by decide +kernel
theorem dX8_state_22 : decode cX8_state 22 = .ok (.getfield 43, 3) := by decide +kernel
theorem dX8_state_25 : decode cX8_state 25 = .ok (.iload_n 1, 1) := by decide +kernel
theorem dX8_state_26 : decode cX8_state 26 = .ok (.invokevirtual 130, 3) := by decide +kernel
theorem dX8_state_29 : decode cX8_state 29 = .ok (.ireturn, 1) := by decide +kernel
theorem dX8_sample_0 : decode cX8_sample 0 = .ok (.iload_n 1, 1) := by decide +kernel
theorem dX8_sample_1 : decode cX8_sample 1 = .ok (.invokestatic 76, 3) := by decide +kernel
theorem dX8_sample_4 : decode cX8_sample 4 = .ok (.ifCond .eq 21, 3) := by decide +kernel
theorem dX8_sample_7 : decode cX8_sample 7 = .ok (.iload_n 2, 1) := by decide +kernel
theorem dX8_sample_8 : decode cX8_sample 8 = .ok (.ifCond .lt 17, 3) := by decide +kernel
theorem dX8_sample_11 : decode cX8_sample 11 = .ok (.iload_n 2, 1) := by decide +kernel
theorem dX8_sample_12 : decode cX8_sample 12 = .ok (.aload_n 0, 1) := by decide +kernel
theorem dX8_sample_13 : decode cX8_sample 13 = .ok (.getfield 10, 3) := by decide +kernel
theorem dX8_sample_16 : decode cX8_sample 16 = .ok (.getfield 43, 3) := by decide +kernel
theorem dX8_sample_19 : decode cX8_sample 19 = .ok (.getfield 47, 3) := by decide +kernel
theorem dX8_sample_22 : decode cX8_sample 22 = .ok (.if_icmp .lt 7, 3) := by decide +kernel
theorem dX8_sample_25 : decode cX8_sample 25 = .ok (.sipush (-1001), 3) := by decide +kernel
theorem dX8_sample_28 : decode cX8_sample 28 = .ok (.ireturn, 1) := by decide +kernel
theorem dX8_sample_29 : decode cX8_sample 29 = .ok (.aload_n 0, 1) := by decide +kernel
theorem dX8_sample_30 : decode cX8_sample 30 = .ok (.getfield 10, 3) := by decide +kernel
theorem dX8_sample_33 : decode cX8_sample 33 = .ok (.getfield 43, 3) := by decide +kernel
theorem dX8_sample_36 : decode cX8_sample 36 = .ok (.iload_n 1, 1) := by decide +kernel
theorem dX8_sample_37 : decode cX8_sample 37 = .ok (.iload_n 2, 1) := by decide +kernel
theorem dX8_sample_38 : decode cX8_sample 38 = .ok (.invokevirtual 136, 3) := by decide +kernel
theorem dX8_sample_41 : decode cX8_sample 41 = .ok (.ireturn, 1) := by decide +kernel
theorem dX8_missing_0 : decode cX8_missing 0 = .ok (.aload_n 0, 1) := by decide +kernel
theorem dX8_missing_1 : decode cX8_missing 1 = .ok (.getfield 10, 3) := by decide +kernel
theorem dX8_missing_4 : decode cX8_missing 4 = .ok (.getfield 43, 3) := by decide +kernel
theorem dX8_missing_7 : decode cX8_missing 7 = .ok (.iload_n 1, 1) := by decide +kernel
theorem dX8_missing_8 : decode cX8_missing 8 = .ok (.iload_n 2, 1) := by decide +kernel
theorem dX8_missing_9 : decode cX8_missing 9 = .ok (.iload_n 3, 1) := by decide +kernel
theorem dX8_missing_10 : decode cX8_missing 10 = .ok (.invokevirtual 84, 3) := by decide +kernel
theorem dX8_missing_13 : decode cX8_missing 13 = .ok (.ifCond .ne 7, 3) := by decide +kernel
theorem dX8_missing_16 : decode cX8_missing 16 = .ok (.sipush (-1001), 3) := by decide +kernel
theorem dX8_missing_19 : decode cX8_missing 19 = .ok (.ireturn, 1) := by decide +kernel
theorem dX8_missing_20 : decode cX8_missing 20 = .ok (.aload_n 0, 1) := by decide +kernel
theorem dX8_missing_21 : decode cX8_missing 21 = .ok (.getfield 10, 3) := by decide +kernel
theorem dX8_missing_24 : decode cX8_missing 24 = .ok (.getfield 126, 3) := by decide +kernel
theorem dX8_missing_27 : decode cX8_missing 27 = .ok (.aload_n 0, 1) := by decide +kernel
theorem dX8_missing_28 : decode cX8_missing 28 = .ok (.getfield 10, 3) := by decide +kernel
theorem dX8_missing_31 : decode cX8_missing 31 = .ok (.getfield 43, 3) := by decide +kernel
theorem dX8_missing_34 : decode cX8_missing 34 = .ok (.iload_n 1, 1) := by decide +kernel
theorem dX8_missing_35 : decode cX8_missing 35 = .ok (.iload_n 2, 1) := by decide +kernel
theorem dX8_missing_36 : decode cX8_missing 36 = .ok (.iload_n 3, 1) := by decide +kernel
theorem dX8_missing_37 : decode cX8_missing 37 = .ok (.invokevirtual 140, 3) := by decide +kernel
theorem dX8_missing_40 : decode cX8_missing 40 = .ok (.ireturn, 1) := by decide +kernel
theorem dX8_unrestorable_0 : decode cX8_unrestorable 0 = .ok (.aload_n 0, 1) := by decide +kernel
theorem dX8_unrestorable_1 : decode cX8_unrestorable 1 = .ok (.getfield 10, 3) := by decide +kernel
theorem dX8_unrestorable_4 : decode cX8_unrestorable 4 = .ok (.getfield 43, 3) := by decide +kernel
theorem dX8_unrestorable_7 : decode cX8_unrestorable 7 = .ok (.iload_n 1, 1) := by decide +kernel
theorem dX8_unrestorable_8 : decode cX8_unrestorable 8 = .ok (.invokevirtual 144, 3) := by decide +kernel
theorem dX8_unrestorable_11 : decode cX8_unrestorable 11 = .ok (.ifCond .ne 7, 3) := by decide +kernel
theorem dX8_unrestorable_14 : decode cX8_unrestorable 14 = .ok (.sipush (-1001), 3) := by decide +kernel
theorem dX8_unrestorable_17 : decode cX8_unrestorable 17 = .ok (.ireturn, 1) := by decide +kernel
theorem dX8_unrestorable_18 : decode cX8_unrestorable 18 = .ok (.aload_n 0, 1) := by decide +kernel
theorem dX8_unrestorable_19 : decode cX8_unrestorable 19 = .ok (.getfield 10, 3) := by decide +kernel
theorem dX8_unrestorable_22 : decode cX8_unrestorable 22 = .ok (.getfield 126, 3) := by decide +kernel
theorem dX8_unrestorable_25 : decode cX8_unrestorable 25 = .ok (.aload_n 0, 1) := by decide +kernel
theorem dX8_unrestorable_26 : decode cX8_unrestorable 26 = .ok (.getfield 10, 3) := by decide +kernel
theorem dX8_unrestorable_29 : decode cX8_unrestorable 29 = .ok (.getfield 43, 3) := by decide +kernel
theorem dX8_unrestorable_32 : decode cX8_unrestorable 32 = .ok (.iload_n 1, 1) := by decide +kernel
theorem dX8_unrestorable_33 : decode cX8_unrestorable 33 = .ok (.invokevirtual 147, 3) := by decide +kernel
theorem dX8_unrestorable_36 : decode cX8_unrestorable 36 = .ok (.ireturn, 1) := by decide +kernel
theorem dX8_paritySample_0 : decode cX8_paritySample 0 = .ok (.aload_n 0, 1) := by decide +kernel
theorem dX8_paritySample_1 : decode cX8_paritySample 1 = .ok (.getfield 10, 3) := by decide +kernel
theorem dX8_paritySample_4 : decode cX8_paritySample 4 = .ok (.getfield 43, 3) := by decide +kernel
theorem dX8_paritySample_7 : decode cX8_paritySample 7 = .ok (.astore 5, 2) := by decide +kernel
theorem dX8_paritySample_9 : decode cX8_paritySample 9 = .ok (.aload 5, 2) := by decide +kernel
theorem dX8_paritySample_11 : decode cX8_paritySample 11 = .ok (.iload_n 1, 1) := by decide +kernel
theorem dX8_paritySample_12 : decode cX8_paritySample 12 = .ok (.iload_n 2, 1) := by decide +kernel
theorem dX8_paritySample_13 : decode cX8_paritySample 13 = .ok (.iload_n 3, 1) := by decide +kernel
theorem dX8_paritySample_14 : decode cX8_paritySample 14 = .ok (.invokevirtual 84, 3) := by decide +kernel
theorem dX8_paritySample_17 : decode cX8_paritySample 17 = .ok (.ifCond .eq 18, 3) := by decide +kernel
theorem dX8_paritySample_20 : decode cX8_paritySample 20 = .ok (.iload 4, 2) := by decide +kernel
theorem dX8_paritySample_22 : decode cX8_paritySample 22 = .ok (.ifCond .lt 13, 3) := by decide +kernel
theorem dX8_paritySample_25 : decode cX8_paritySample 25 = .ok (.iload 4, 2) := by decide +kernel
theorem dX8_paritySample_27 : decode cX8_paritySample 27 = .ok (.aload 5, 2) := by decide +kernel
theorem dX8_paritySample_29 : decode cX8_paritySample 29 = .ok (.getfield 47, 3) := by decide +kernel
theorem dX8_paritySample_32 : decode cX8_paritySample 32 = .ok (.if_icmp .lt 7, 3) := by decide +kernel
theorem dX8_paritySample_35 : decode cX8_paritySample 35 = .ok (.sipush (-1001), 3) := by decide +kernel
theorem dX8_paritySample_38 : decode cX8_paritySample 38 = .ok (.ireturn, 1) := by decide +kernel
theorem dX8_paritySample_39 : decode cX8_paritySample 39 = .ok (.iload_n 1, 1) := by decide +kernel
theorem dX8_paritySample_40 : decode cX8_paritySample 40 = .ok (.ifCond .eq 11, 3) := by decide +kernel
theorem dX8_paritySample_43 : decode cX8_paritySample 43 = .ok (.aload 5, 2) := by decide +kernel
theorem dX8_paritySample_45 : decode cX8_paritySample 45 = .ok (.getfield 57, 3) := by decide +kernel
theorem dX8_paritySample_48 : decode cX8_paritySample 48 = .ok (.goto 8, 3) := by decide +kernel
theorem dX8_paritySample_51 : decode cX8_paritySample 51 = .ok (.aload 5, 2) := by decide +kernel
theorem dX8_paritySample_53 : decode cX8_paritySample 53 = .ok (.getfield 60, 3) := by decide +kernel
theorem dX8_paritySample_56 : decode cX8_paritySample 56 = .ok (.istore 6, 2) := by decide +kernel
theorem dX8_paritySample_58 : decode cX8_paritySample 58 = .ok (.iconst 0, 1) := by decide +kernel
theorem dX8_paritySample_59 : decode cX8_paritySample 59 = .ok (.istore 7, 2) := by decide +kernel
theorem dX8_paritySample_61 : decode cX8_paritySample 61 = .ok (.iconst 0, 1) := by decide +kernel
theorem dX8_paritySample_62 : decode cX8_paritySample 62 = .ok (.istore 8, 2) := by decide +kernel
theorem dX8_paritySample_64 : decode cX8_paritySample 64 = .ok (.iload 8, 2) := by decide +kernel
theorem dX8_paritySample_66 : decode cX8_paritySample 66 = .ok (.iload 6, 2) := by decide +kernel
theorem dX8_paritySample_68 : decode cX8_paritySample 68 = .ok (.if_icmp .ge 47, 3) := by decide +kernel
theorem dX8_paritySample_71 : decode cX8_paritySample 71 = .ok (.aload 5, 2) := by decide +kernel
theorem dX8_paritySample_73 : decode cX8_paritySample 73 = .ok (.iload_n 1, 1) := by decide +kernel
theorem dX8_paritySample_74 : decode cX8_paritySample 74 = .ok (.iload_n 2, 1) := by decide +kernel
theorem dX8_paritySample_75 : decode cX8_paritySample 75 = .ok (.iload_n 3, 1) := by decide +kernel
theorem dX8_paritySample_76 : decode cX8_paritySample 76 = .ok (.iload 8, 2) := by decide +kernel
theorem dX8_paritySample_78 : decode cX8_paritySample 78 = .ok (.invokevirtual 150, 3) := by decide +kernel
theorem dX8_paritySample_81 : decode cX8_paritySample 81 = .ok (.istore 9, 2) := by decide +kernel
theorem dX8_paritySample_83 : decode cX8_paritySample 83 = .ok (.iload 9, 2) := by decide +kernel
theorem dX8_paritySample_85 : decode cX8_paritySample 85 = .ok (.sipush 999, 3) := by decide +kernel
theorem dX8_paritySample_88 : decode cX8_paritySample 88 = .ok (.if_icmp .gt 21, 3) := by decide +kernel
theorem dX8_paritySample_91 : decode cX8_paritySample 91 = .ok (.iload 7, 2) := by decide +kernel
theorem dX8_paritySample_93 : decode cX8_paritySample 93 = .ok (.aload 5, 2) := by decide +kernel
theorem dX8_paritySample_95 : decode cX8_paritySample 95 = .ok (.iload 9, 2) := by decide +kernel
theorem dX8_paritySample_97 : decode cX8_paritySample 97 = .ok (.iload 4, 2) := by decide +kernel
theorem dX8_paritySample_99 : decode cX8_paritySample 99 = .ok (.invokevirtual 136, 3) := by decide +kernel
theorem dX8_paritySample_102 : decode cX8_paritySample 102 = .ok (.sipush 128, 3) := by decide +kernel
theorem dX8_paritySample_105 : decode cX8_paritySample 105 = .ok (.iadd, 1) := by decide +kernel
theorem dX8_paritySample_106 : decode cX8_paritySample 106 = .ok (.ixor, 1) := by decide +kernel
theorem dX8_paritySample_107 : decode cX8_paritySample 107 = .ok (.istore 7, 2) := by decide +kernel
theorem dX8_paritySample_109 : decode cX8_paritySample 109 = .ok (.iinc 8 1, 3) := by decide +kernel
theorem dX8_paritySample_112 : decode cX8_paritySample 112 = .ok (.goto (-48), 3) := by decide +kernel
theorem dX8_paritySample_115 : decode cX8_paritySample 115 = .ok (.iload 7, 2) := by decide +kernel
theorem dX8_paritySample_117 : decode cX8_paritySample 117 = .ok (.ireturn, 1) := by decide +kernel
theorem dX8_transits_0 : decode cX8_transits 0 = .ok (.aload_n 0, 1) := by decide +kernel
theorem dX8_transits_1 : decode cX8_transits 1 = .ok (.getfield 10, 3) := by decide +kernel
theorem dX8_transits_4 : decode cX8_transits 4 = .ok (.getfield 154, 3) := by decide +kernel
theorem dX8_transits_7 : decode cX8_transits 7 = .ok (.getfield 158, 3) := by decide +kernel
theorem dX8_transits_10 : decode cX8_transits 10 = .ok (.ireturn, 1) := by decide +kernel
theorem dX8_transit_0 : decode cX8_transit 0 = .ok (.iload_n 1, 1) := by decide +kernel
theorem dX8_transit_1 : decode cX8_transit 1 = .ok (.ifCond .lt 17, 3) := by decide +kernel
theorem dX8_transit_4 : decode cX8_transit 4 = .ok (.iload_n 1, 1) := by decide +kernel
theorem dX8_transit_5 : decode cX8_transit 5 = .ok (.aload_n 0, 1) := by decide +kernel
theorem dX8_transit_6 : decode cX8_transit 6 = .ok (.getfield 10, 3) := by decide +kernel
theorem dX8_transit_9 : decode cX8_transit 9 = .ok (.getfield 154, 3) := by decide +kernel
theorem dX8_transit_12 : decode cX8_transit 12 = .ok (.getfield 158, 3) := by decide +kernel
theorem dX8_transit_15 : decode cX8_transit 15 = .ok (.if_icmp .lt 7, 3) := by decide +kernel
theorem dX8_transit_18 : decode cX8_transit 18 = .ok (.sipush (-1001), 3) := by decide +kernel
theorem dX8_transit_21 : decode cX8_transit 21 = .ok (.ireturn, 1) := by decide +kernel
theorem dX8_transit_22 : decode cX8_transit 22 = .ok (.sipush (-999), 3) := by decide +kernel
theorem dX8_transit_25 : decode cX8_transit 25 = .ok (.aload_n 0, 1) := by decide +kernel
theorem dX8_transit_26 : decode cX8_transit 26 = .ok (.getfield 10, 3) := by decide +kernel
theorem dX8_transit_29 : decode cX8_transit 29 = .ok (.getfield 154, 3) := by decide +kernel
theorem dX8_transit_32 : decode cX8_transit 32 = .ok (.iload_n 1, 1) := by decide +kernel
theorem dX8_transit_33 : decode cX8_transit 33 = .ok (.invokevirtual 163, 3) := by decide +kernel
theorem dX8_transit_36 : decode cX8_transit 36 = .ok (.invokestatic 166, 3) := by decide +kernel
theorem dX8_transit_39 : decode cX8_transit 39 = .ok (.ireturn, 1) := by decide +kernel
theorem dX8_target_0 : decode cX8_target 0 = .ok (.aload_n 0, 1) := by decide +kernel
theorem dX8_target_1 : decode cX8_target 1 = .ok (.getfield 10, 3) := by decide +kernel
theorem dX8_target_4 : decode cX8_target 4 = .ok (.invokevirtual 171, 3) := by decide +kernel
theorem dX8_target_7 : decode cX8_target 7 = .ok (.ireturn, 1) := by decide +kernel
theorem dX8_level_0 : decode cX8_level 0 = .ok (.aload_n 0, 1) := by decide +kernel
theorem dX8_level_1 : decode cX8_level 1 = .ok (.getfield 10, 3) := by decide +kernel
theorem dX8_level_4 : decode cX8_level 4 = .ok (.aload_n 0, 1) := by decide +kernel
theorem dX8_level_5 : decode cX8_level 5 = .ok (.getfield 10, 3) := by decide +kernel
theorem dX8_level_8 : decode cX8_level 8 = .ok (.getfield 92, 3) := by decide +kernel
theorem dX8_level_11 : decode cX8_level 11 = .ok (.getfield 120, 3) := by decide +kernel
theorem dX8_level_14 : decode cX8_level 14 = .ok (.invokevirtual 174, 3) := by decide +kernel
theorem dX8_level_17 : decode cX8_level 17 = .ok (.ireturn, 1) := by decide +kernel
theorem dX8_taken_0 : decode cX8_taken 0 = .ok (.iload_n 1, 1) := by decide +kernel
theorem dX8_taken_1 : decode cX8_taken 1 = .ok (.iconst 1, 1) := by decide +kernel
theorem dX8_taken_2 : decode cX8_taken 2 = .ok (.if_icmp .lt 8, 3) := by decide +kernel
theorem dX8_taken_5 : decode cX8_taken 5 = .ok (.iload_n 1, 1) := by decide +kernel
theorem dX8_taken_6 : decode cX8_taken 6 = .ok (.iconst 3, 1) := by decide +kernel
theorem dX8_taken_7 : decode cX8_taken 7 = .ok (.if_icmp .le 7, 3) := by decide +kernel
theorem dX8_taken_10 : decode cX8_taken 10 = .ok (.sipush (-1001), 3) := by decide +kernel
theorem dX8_taken_13 : decode cX8_taken 13 = .ok (.ireturn, 1) := by decide +kernel
theorem dX8_taken_14 : decode cX8_taken 14 = .ok (.aload_n 0, 1) := by decide +kernel
theorem dX8_taken_15 : decode cX8_taken 15 = .ok (.getfield 10, 3) := by decide +kernel
theorem dX8_taken_18 : decode cX8_taken 18 = .ok (.getfield 177, 3) := by decide +kernel
theorem dX8_taken_21 : decode cX8_taken 21 = .ok (.iload_n 1, 1) := by decide +kernel
theorem dX8_taken_22 : decode cX8_taken 22 = .ok (.invokevirtual 181, 3) := by decide +kernel
theorem dX8_taken_25 : decode cX8_taken 25 = .ok (.ireturn, 1) := by decide +kernel
theorem dX8_stretched_0 : decode cX8_stretched 0 = .ok (.aload_n 0, 1) := by decide +kernel
theorem dX8_stretched_1 : decode cX8_stretched 1 = .ok (.getfield 10, 3) := by decide +kernel
theorem dX8_stretched_4 : decode cX8_stretched 4 = .ok (.getfield 177, 3) := by decide +kernel
theorem dX8_stretched_7 : decode cX8_stretched 7 = .ok (.getfield 186, 3) := by decide +kernel
theorem dX8_stretched_10 : decode cX8_stretched 10 = .ok (.ireturn, 1) := by decide +kernel
theorem dX8_compressed_0 : decode cX8_compressed 0 = .ok (.aload_n 0, 1) := by decide +kernel
theorem dX8_compressed_1 : decode cX8_compressed 1 = .ok (.getfield 10, 3) := by decide +kernel
theorem dX8_compressed_4 : decode cX8_compressed 4 = .ok (.getfield 177, 3) := by decide +kernel
theorem dX8_compressed_7 : decode cX8_compressed 7 = .ok (.getfield 189, 3) := by decide +kernel
theorem dX8_compressed_10 : decode cX8_compressed 10 = .ok (.ireturn, 1) := by decide +kernel
theorem dX8_late_0 : decode cX8_late 0 = .ok (.aload_n 0, 1) := by decide +kernel
theorem dX8_late_1 : decode cX8_late 1 = .ok (.getfield 10, 3) := by decide +kernel
theorem dX8_late_4 : decode cX8_late 4 = .ok (.getfield 177, 3) := by decide +kernel
theorem dX8_late_7 : decode cX8_late 7 = .ok (.getfield 192, 3) := by decide +kernel
theorem dX8_late_10 : decode cX8_late 10 = .ok (.ireturn, 1) := by decide +kernel
theorem dX8_duplicates_0 : decode cX8_duplicates 0 = .ok (.aload_n 0, 1) := by decide +kernel
theorem dX8_duplicates_1 : decode cX8_duplicates 1 = .ok (.getfield 10, 3) := by decide +kernel
theorem dX8_duplicates_4 : decode cX8_duplicates 4 = .ok (.getfield 177, 3) := by decide +kernel
theorem dX8_duplicates_7 : decode cX8_duplicates 7 = .ok (.getfield 195, 3) := by decide +kernel
theorem dX8_duplicates_10 : decode cX8_duplicates 10 = .ok (.ireturn, 1) := by decide +kernel
theorem dX8_loss_0 : decode cX8_loss 0 = .ok (.aload_n 0, 1) := by decide +kernel
theorem dX8_loss_1 : decode cX8_loss 1 = .ok (.getfield 10, 3) := by decide +kernel
theorem dX8_loss_4 : decode cX8_loss 4 = .ok (.getfield 177, 3) := by decide +kernel
theorem dX8_loss_7 : decode cX8_loss 7 = .ok (.getfield 198, 3) := by decide +kernel
theorem dX8_loss_10 : decode cX8_loss 10 = .ok (.istore_n 2, 1) := by decide +kernel
theorem dX8_loss_11 : decode cX8_loss 11 = .ok (.aload_n 0, 1) := by decide +kernel
theorem dX8_loss_12 : decode cX8_loss 12 = .ok (.getfield 10, 3) := by decide +kernel
theorem dX8_loss_15 : decode cX8_loss 15 = .ok (.getfield 92, 3) := by decide +kernel
theorem dX8_loss_18 : decode cX8_loss 18 = .ok (.getfield 120, 3) := by decide +kernel
theorem dX8_loss_21 : decode cX8_loss 21 = .ok (.istore_n 3, 1) := by decide +kernel
theorem dX8_loss_22 : decode cX8_loss 22 = .ok (.iload_n 3, 1) := by decide +kernel
theorem dX8_loss_23 : decode cX8_loss 23 = .ok (.ifCond .ne 13, 3) := by decide +kernel
theorem dX8_loss_26 : decode cX8_loss 26 = .ok (.iload_n 1, 1) := by decide +kernel
theorem dX8_loss_27 : decode cX8_loss 27 = .ok (.ifCond .eq 7, 3) := by decide +kernel
theorem dX8_loss_30 : decode cX8_loss 30 = .ok (.iconst 1, 1) := by decide +kernel
theorem dX8_loss_31 : decode cX8_loss 31 = .ok (.goto 4, 3) := by decide +kernel
theorem dX8_loss_34 : decode cX8_loss 34 = .ok (.iconst 0, 1) := by decide +kernel
theorem dX8_loss_35 : decode cX8_loss 35 = .ok (.ireturn, 1) := by decide +kernel
theorem dX8_loss_36 : decode cX8_loss 36 = .ok (.iconst 1, 1) := by decide +kernel
theorem dX8_loss_37 : decode cX8_loss 37 = .ok (.iload_n 3, 1) := by decide +kernel
theorem dX8_loss_38 : decode cX8_loss 38 = .ok (.iload_n 2, 1) := by decide +kernel
theorem dX8_loss_39 : decode cX8_loss 39 = .ok (.invokestatic 201, 3) := by decide +kernel
theorem dX8_loss_42 : decode cX8_loss 42 = .ok (.invokestatic 166, 3) := by decide +kernel
theorem dX8_loss_45 : decode cX8_loss 45 = .ok (.istore 4, 2) := by decide +kernel
theorem dX8_loss_47 : decode cX8_loss 47 = .ok (.iload_n 1, 1) := by decide +kernel
theorem dX8_loss_48 : decode cX8_loss 48 = .ok (.ifCond .eq 7, 3) := by decide +kernel
theorem dX8_loss_51 : decode cX8_loss 51 = .ok (.iload_n 3, 1) := by decide +kernel
theorem dX8_loss_52 : decode cX8_loss 52 = .ok (.goto 4, 3) := by decide +kernel
theorem dX8_loss_55 : decode cX8_loss 55 = .ok (.iload_n 2, 1) := by decide +kernel
theorem dX8_loss_56 : decode cX8_loss 56 = .ok (.iload 4, 2) := by decide +kernel
theorem dX8_loss_58 : decode cX8_loss 58 = .ok (.idiv, 1) := by decide +kernel
theorem dX8_loss_59 : decode cX8_loss 59 = .ok (.ireturn, 1) := by decide +kernel
theorem dX8_longestGap_0 : decode cX8_longestGap 0 = .ok (.aload_n 0, 1) := by decide +kernel
theorem dX8_longestGap_1 : decode cX8_longestGap 1 = .ok (.getfield 10, 3) := by decide +kernel
theorem dX8_longestGap_4 : decode cX8_longestGap 4 = .ok (.getfield 177, 3) := by decide +kernel
theorem dX8_longestGap_7 : decode cX8_longestGap 7 = .ok (.getfield 204, 3) := by decide +kernel
theorem dX8_longestGap_10 : decode cX8_longestGap 10 = .ok (.ireturn, 1) := by decide +kernel
theorem dX8_ticksToGap_0 : decode cX8_ticksToGap 0 = .ok (.aload_n 0, 1) := by decide +kernel
theorem dX8_ticksToGap_1 : decode cX8_ticksToGap 1 = .ok (.getfield 16, 3) := by decide +kernel
theorem dX8_ticksToGap_4 : decode cX8_ticksToGap 4 = .ok (.aload_n 0, 1) := by decide +kernel
theorem dX8_ticksToGap_5 : decode cX8_ticksToGap 5 = .ok (.getfield 10, 3) := by decide +kernel
theorem dX8_ticksToGap_8 : decode cX8_ticksToGap 8 = .ok (.invokevirtual 207, 3) := by decide +kernel
theorem dX8_ticksToGap_11 : decode cX8_ticksToGap 11 = .ok (.aload_n 0, 1) := by decide +kernel
theorem dX8_ticksToGap_12 : decode cX8_ticksToGap 12 = .ok (.getfield 16, 3) := by decide +kernel
theorem dX8_ticksToGap_15 : decode cX8_ticksToGap 15 = .ok (.getfield 177, 3) := by decide +kernel
theorem dX8_ticksToGap_18 : decode cX8_ticksToGap 18 = .ok (.getfield 198, 3) := by decide +kernel
theorem dX8_ticksToGap_21 : decode cX8_ticksToGap 21 = .ok (.istore_n 1, 1) := by decide +kernel
theorem dX8_ticksToGap_22 : decode cX8_ticksToGap 22 = .ok (.iconst 0, 1) := by decide +kernel
theorem dX8_ticksToGap_23 : decode cX8_ticksToGap 23 = .ok (.istore_n 2, 1) := by decide +kernel
theorem dX8_ticksToGap_24 : decode cX8_ticksToGap 24 = .ok (.iload_n 2, 1) := by decide +kernel
theorem dX8_ticksToGap_25 : decode cX8_ticksToGap 25 = .ok (.sipush 1000, 3) := by decide +kernel
theorem dX8_ticksToGap_28 : decode cX8_ticksToGap 28 = .ok (.if_icmp .ge 32, 3) := by decide +kernel
theorem dX8_ticksToGap_31 : decode cX8_ticksToGap 31 = .ok (.aload_n 0, 1) := by decide +kernel
theorem dX8_ticksToGap_32 : decode cX8_ticksToGap 32 = .ok (.getfield 16, 3) := by decide +kernel
theorem dX8_ticksToGap_35 : decode cX8_ticksToGap 35 = .ok (.invokevirtual 101, 3) := by decide +kernel
theorem dX8_ticksToGap_38 : decode cX8_ticksToGap 38 = .ok (.aload_n 0, 1) := by decide +kernel
theorem dX8_ticksToGap_39 : decode cX8_ticksToGap 39 = .ok (.getfield 16, 3) := by decide +kernel
theorem dX8_ticksToGap_42 : decode cX8_ticksToGap 42 = .ok (.getfield 177, 3) := by decide +kernel
theorem dX8_ticksToGap_45 : decode cX8_ticksToGap 45 = .ok (.getfield 198, 3) := by decide +kernel
theorem dX8_ticksToGap_48 : decode cX8_ticksToGap 48 = .ok (.iload_n 1, 1) := by decide +kernel
theorem dX8_ticksToGap_49 : decode cX8_ticksToGap 49 = .ok (.if_icmp .le 5, 3) := by decide +kernel
theorem dX8_ticksToGap_52 : decode cX8_ticksToGap 52 = .ok (.iload_n 2, 1) := by decide +kernel
theorem dX8_ticksToGap_53 : decode cX8_ticksToGap 53 = .ok (.ireturn, 1) := by decide +kernel
theorem dX8_ticksToGap_54 : decode cX8_ticksToGap 54 = .ok (.iinc 2 1, 3) := by decide +kernel
theorem dX8_ticksToGap_57 : decode cX8_ticksToGap 57 = .ok (.goto (-33), 3) := by decide +kernel
theorem dX8_ticksToGap_60 : decode cX8_ticksToGap 60 = .ok (.sipush (-1004), 3) := by decide +kernel
theorem dX8_ticksToGap_63 : decode cX8_ticksToGap 63 = .ok (.ireturn, 1) := by decide +kernel
theorem dX8_gapsIn_0 : decode cX8_gapsIn 0 = .ok (.iload_n 1, 1) := by decide +kernel
theorem dX8_gapsIn_1 : decode cX8_gapsIn 1 = .ok (.iconst 1, 1) := by decide +kernel
theorem dX8_gapsIn_2 : decode cX8_gapsIn 2 = .ok (.if_icmp .lt 10, 3) := by decide +kernel
theorem dX8_gapsIn_5 : decode cX8_gapsIn 5 = .ok (.iload_n 1, 1) := by decide +kernel
theorem dX8_gapsIn_6 : decode cX8_gapsIn 6 = .ok (.sipush 1000, 3) := by decide +kernel
theorem dX8_gapsIn_9 : decode cX8_gapsIn 9 = .ok (.if_icmp .le 7, 3) := by decide +kernel
theorem dX8_gapsIn_12 : decode cX8_gapsIn 12 = .ok (.sipush (-1001), 3) := by decide +kernel
theorem dX8_gapsIn_15 : decode cX8_gapsIn 15 = .ok (.ireturn, 1) := by decide +kernel
theorem dX8_gapsIn_16 : decode cX8_gapsIn 16 = .ok (.aload_n 0, 1) := by decide +kernel
theorem dX8_gapsIn_17 : decode cX8_gapsIn 17 = .ok (.getfield 16, 3) := by decide +kernel
theorem dX8_gapsIn_20 : decode cX8_gapsIn 20 = .ok (.aload_n 0, 1) := by decide +kernel
theorem dX8_gapsIn_21 : decode cX8_gapsIn 21 = .ok (.getfield 10, 3) := by decide +kernel
theorem dX8_gapsIn_24 : decode cX8_gapsIn 24 = .ok (.invokevirtual 207, 3) := by decide +kernel
theorem dX8_gapsIn_27 : decode cX8_gapsIn 27 = .ok (.aload_n 0, 1) := by decide +kernel
theorem dX8_gapsIn_28 : decode cX8_gapsIn 28 = .ok (.getfield 16, 3) := by decide +kernel
theorem dX8_gapsIn_31 : decode cX8_gapsIn 31 = .ok (.getfield 177, 3) := by decide +kernel
theorem dX8_gapsIn_34 : decode cX8_gapsIn 34 = .ok (.getfield 198, 3) := by decide +kernel
theorem dX8_gapsIn_37 : decode cX8_gapsIn 37 = .ok (.istore_n 2, 1) := by decide +kernel
theorem dX8_gapsIn_38 : decode cX8_gapsIn 38 = .ok (.iconst 0, 1) := by decide +kernel
theorem dX8_gapsIn_39 : decode cX8_gapsIn 39 = .ok (.istore_n 3, 1) := by decide +kernel
theorem dX8_gapsIn_40 : decode cX8_gapsIn 40 = .ok (.iload_n 3, 1) := by decide +kernel
theorem dX8_gapsIn_41 : decode cX8_gapsIn 41 = .ok (.iload_n 1, 1) := by decide +kernel
theorem dX8_gapsIn_42 : decode cX8_gapsIn 42 = .ok (.if_icmp .ge 16, 3) := by decide +kernel
theorem dX8_gapsIn_45 : decode cX8_gapsIn 45 = .ok (.aload_n 0, 1) := by decide +kernel
theorem dX8_gapsIn_46 : decode cX8_gapsIn 46 = .ok (.getfield 16, 3) := by decide +kernel
theorem dX8_gapsIn_49 : decode cX8_gapsIn 49 = .ok (.invokevirtual 101, 3) := by decide +kernel
theorem dX8_gapsIn_52 : decode cX8_gapsIn 52 = .ok (.iinc 3 1, 3) := by decide +kernel
theorem dX8_gapsIn_55 : decode cX8_gapsIn 55 = .ok (.goto (-15), 3) := by decide +kernel
theorem dX8_gapsIn_58 : decode cX8_gapsIn 58 = .ok (.aload_n 0, 1) := by decide +kernel
theorem dX8_gapsIn_59 : decode cX8_gapsIn 59 = .ok (.getfield 16, 3) := by decide +kernel
theorem dX8_gapsIn_62 : decode cX8_gapsIn 62 = .ok (.getfield 177, 3) := by decide +kernel
theorem dX8_gapsIn_65 : decode cX8_gapsIn 65 = .ok (.getfield 198, 3) := by decide +kernel
theorem dX8_gapsIn_68 : decode cX8_gapsIn 68 = .ok (.iload_n 2, 1) := by decide +kernel
theorem dX8_gapsIn_69 : decode cX8_gapsIn 69 = .ok (.isub, 1) := by decide +kernel
theorem dX8_gapsIn_70 : decode cX8_gapsIn 70 = .ok (.ireturn, 1) := by decide +kernel
theorem dX8_ticksToFrame_0 : decode cX8_ticksToFrame 0 = .ok (.iload_n 1, 1) := by decide +kernel
theorem dX8_ticksToFrame_1 : decode cX8_ticksToFrame 1 = .ok (.invokestatic 76, 3) := by decide +kernel
theorem dX8_ticksToFrame_4 : decode cX8_ticksToFrame 4 = .ok (.ifCond .ne 7, 3) := by decide +kernel
theorem dX8_ticksToFrame_7 : decode cX8_ticksToFrame 7 = .ok (.sipush (-1001), 3) := by decide +kernel
theorem dX8_ticksToFrame_10 : decode cX8_ticksToFrame 10 = .ok (.ireturn, 1) := by decide +kernel
theorem dX8_ticksToFrame_11 : decode cX8_ticksToFrame 11 = .ok (.iload_n 1, 1) := by decide +kernel
theorem dX8_ticksToFrame_12 : decode cX8_ticksToFrame 12 = .ok (.aload_n 0, 1) := by decide +kernel
theorem dX8_ticksToFrame_13 : decode cX8_ticksToFrame 13 = .ok (.getfield 10, 3) := by decide +kernel
theorem dX8_ticksToFrame_16 : decode cX8_ticksToFrame 16 = .ok (.getfield 92, 3) := by decide +kernel
theorem dX8_ticksToFrame_19 : decode cX8_ticksToFrame 19 = .ok (.getfield 120, 3) := by decide +kernel
theorem dX8_ticksToFrame_22 : decode cX8_ticksToFrame 22 = .ok (.if_icmp .ge 7, 3) := by decide +kernel
theorem dX8_ticksToFrame_25 : decode cX8_ticksToFrame 25 = .ok (.sipush (-1003), 3) := by decide +kernel
theorem dX8_ticksToFrame_28 : decode cX8_ticksToFrame 28 = .ok (.ireturn, 1) := by decide +kernel
theorem dX8_ticksToFrame_29 : decode cX8_ticksToFrame 29 = .ok (.aload_n 0, 1) := by decide +kernel
theorem dX8_ticksToFrame_30 : decode cX8_ticksToFrame 30 = .ok (.getfield 16, 3) := by decide +kernel
theorem dX8_ticksToFrame_33 : decode cX8_ticksToFrame 33 = .ok (.aload_n 0, 1) := by decide +kernel
theorem dX8_ticksToFrame_34 : decode cX8_ticksToFrame 34 = .ok (.getfield 10, 3) := by decide +kernel
theorem dX8_ticksToFrame_37 : decode cX8_ticksToFrame 37 = .ok (.invokevirtual 207, 3) := by decide +kernel
theorem dX8_ticksToFrame_40 : decode cX8_ticksToFrame 40 = .ok (.iconst 0, 1) := by decide +kernel
theorem dX8_ticksToFrame_41 : decode cX8_ticksToFrame 41 = .ok (.istore_n 2, 1) := by decide +kernel
theorem dX8_ticksToFrame_42 : decode cX8_ticksToFrame 42 = .ok (.iload_n 2, 1) := by decide +kernel
theorem dX8_ticksToFrame_43 : decode cX8_ticksToFrame 43 = .ok (.sipush 2000, 3) := by decide +kernel
theorem dX8_ticksToFrame_46 : decode cX8_ticksToFrame 46 = .ok (.if_icmp .ge 32, 3) := by decide +kernel
theorem dX8_ticksToFrame_49 : decode cX8_ticksToFrame 49 = .ok (.aload_n 0, 1) := by decide +kernel
theorem dX8_ticksToFrame_50 : decode cX8_ticksToFrame 50 = .ok (.getfield 16, 3) := by decide +kernel
theorem dX8_ticksToFrame_53 : decode cX8_ticksToFrame 53 = .ok (.invokevirtual 101, 3) := by decide +kernel
theorem dX8_ticksToFrame_56 : decode cX8_ticksToFrame 56 = .ok (.aload_n 0, 1) := by decide +kernel
theorem dX8_ticksToFrame_57 : decode cX8_ticksToFrame 57 = .ok (.getfield 16, 3) := by decide +kernel
theorem dX8_ticksToFrame_60 : decode cX8_ticksToFrame 60 = .ok (.getfield 92, 3) := by decide +kernel
theorem dX8_ticksToFrame_63 : decode cX8_ticksToFrame 63 = .ok (.getfield 120, 3) := by decide +kernel
theorem dX8_ticksToFrame_66 : decode cX8_ticksToFrame 66 = .ok (.iload_n 1, 1) := by decide +kernel
theorem dX8_ticksToFrame_67 : decode cX8_ticksToFrame 67 = .ok (.if_icmp .le 5, 3) := by decide +kernel
theorem dX8_ticksToFrame_70 : decode cX8_ticksToFrame 70 = .ok (.iload_n 2, 1) := by decide +kernel
theorem dX8_ticksToFrame_71 : decode cX8_ticksToFrame 71 = .ok (.ireturn, 1) := by decide +kernel
theorem dX8_ticksToFrame_72 : decode cX8_ticksToFrame 72 = .ok (.iinc 2 1, 3) := by decide +kernel
theorem dX8_ticksToFrame_75 : decode cX8_ticksToFrame 75 = .ok (.goto (-33), 3) := by decide +kernel
theorem dX8_ticksToFrame_78 : decode cX8_ticksToFrame 78 = .ok (.sipush (-1004), 3) := by decide +kernel
theorem dX8_ticksToFrame_81 : decode cX8_ticksToFrame 81 = .ok (.ireturn, 1) := by decide +kernel
theorem dX8_append_0 : decode cX8_append 0 = .ok (.iload_n 1, 1) := by decide +kernel
theorem dX8_append_1 : decode cX8_append 1 = .ok (.bipush 32, 2) := by decide +kernel
theorem dX8_append_3 : decode cX8_append 3 = .ok (.if_icmp .lt 9, 3) := by decide +kernel
theorem dX8_append_6 : decode cX8_append 6 = .ok (.iload_n 1, 1) := by decide +kernel
theorem dX8_append_7 : decode cX8_append 7 = .ok (.bipush 126, 2) := by decide +kernel
theorem dX8_append_9 : decode cX8_append 9 = .ok (.if_icmp .le 7, 3) := by decide +kernel
theorem dX8_append_12 : decode cX8_append 12 = .ok (.sipush (-1001), 3) := by decide +kernel
theorem dX8_append_15 : decode cX8_append 15 = .ok (.ireturn, 1) := by decide +kernel
theorem dX8_append_16 : decode cX8_append 16 = .ok (.aload_n 0, 1) := by decide +kernel
theorem dX8_append_17 : decode cX8_append 17 = .ok (.getfield 26, 3) := by decide +kernel
theorem dX8_append_20 : decode cX8_append 20 = .ok (.getfield 211, 3) := by decide +kernel
theorem dX8_append_23 : decode cX8_append 23 = .ok (.bipush 120, 2) := by decide +kernel
theorem dX8_append_25 : decode cX8_append 25 = .ok (.if_icmp .lt 7, 3) := by decide +kernel
theorem dX8_append_28 : decode cX8_append 28 = .ok (.sipush (-1002), 3) := by decide +kernel
theorem dX8_append_31 : decode cX8_append 31 = .ok (.ireturn, 1) := by decide +kernel
theorem dX8_append_32 : decode cX8_append 32 = .ok (.aload_n 0, 1) := by decide +kernel
theorem dX8_append_33 : decode cX8_append 33 = .ok (.getfield 26, 3) := by decide +kernel
theorem dX8_append_36 : decode cX8_append 36 = .ok (.iload_n 1, 1) := by decide +kernel
theorem dX8_append_37 : decode cX8_append 37 = .ok (.invokevirtual 214, 3) := by decide +kernel
theorem dX8_append_40 : decode cX8_append 40 = .ok (.aload_n 0, 1) := by decide +kernel
theorem dX8_append_41 : decode cX8_append 41 = .ok (.getfield 26, 3) := by decide +kernel
theorem dX8_append_44 : decode cX8_append 44 = .ok (.getfield 211, 3) := by decide +kernel
theorem dX8_append_47 : decode cX8_append 47 = .ok (.ireturn, 1) := by decide +kernel
theorem dX8_clearText_0 : decode cX8_clearText 0 = .ok (.aload_n 0, 1) := by decide +kernel
theorem dX8_clearText_1 : decode cX8_clearText 1 = .ok (.getfield 26, 3) := by decide +kernel
theorem dX8_clearText_4 : decode cX8_clearText 4 = .ok (.getfield 211, 3) := by decide +kernel
theorem dX8_clearText_7 : decode cX8_clearText 7 = .ok (.istore_n 1, 1) := by decide +kernel
theorem dX8_clearText_8 : decode cX8_clearText 8 = .ok (.aload_n 0, 1) := by decide +kernel
theorem dX8_clearText_9 : decode cX8_clearText 9 = .ok (.getfield 26, 3) := by decide +kernel
theorem dX8_clearText_12 : decode cX8_clearText 12 = .ok (.iconst 0, 1) := by decide +kernel
theorem dX8_clearText_13 : decode cX8_clearText 13 = .ok (.putfield 211, 3) := by decide +kernel
theorem dX8_clearText_16 : decode cX8_clearText 16 = .ok (.iload_n 1, 1) := by decide +kernel
theorem dX8_clearText_17 : decode cX8_clearText 17 = .ok (.ireturn, 1) := by decide +kernel
theorem dX8_faultPosition_0 : decode cX8_faultPosition 0 = .ok (.aload_n 0, 1) := by decide +kernel
theorem dX8_faultPosition_1 : decode cX8_faultPosition 1 = .ok (.getfield 26, 3) := by decide +kernel
theorem dX8_faultPosition_4 : decode cX8_faultPosition 4 = .ok (.aload_n 0, 1) := by decide +kernel
theorem dX8_faultPosition_5 : decode cX8_faultPosition 5 = .ok (.getfield 33, 3) := by decide +kernel
theorem dX8_faultPosition_8 : decode cX8_faultPosition 8 = .ok (.invokevirtual 218, 3) := by decide +kernel
theorem dX8_faultPosition_11 : decode cX8_faultPosition 11 = .ok (.ireturn, 1) := by decide +kernel
theorem dX8_schedule_0 : decode cX8_schedule 0 = .ok (.aload_n 0, 1) := by decide +kernel
theorem dX8_schedule_1 : decode cX8_schedule 1 = .ok (.getfield 26, 3) := by decide +kernel
theorem dX8_schedule_4 : decode cX8_schedule 4 = .ok (.aload_n 0, 1) := by decide +kernel
theorem dX8_schedule_5 : decode cX8_schedule 5 = .ok (.getfield 33, 3) := by decide +kernel
theorem dX8_schedule_8 : decode cX8_schedule 8 = .ok (.invokevirtual 218, 3) := by decide +kernel
theorem dX8_schedule_11 : decode cX8_schedule 11 = .ok (.sipush (-1004), 3) := by decide +kernel
theorem dX8_schedule_14 : decode cX8_schedule 14 = .ok (.if_icmp .eq 7, 3) := by decide +kernel
theorem dX8_schedule_17 : decode cX8_schedule 17 = .ok (.sipush (-1003), 3) := by decide +kernel
theorem dX8_schedule_20 : decode cX8_schedule 20 = .ok (.ireturn, 1) := by decide +kernel
theorem dX8_schedule_21 : decode cX8_schedule 21 = .ok (.iconst 0, 1) := by decide +kernel
theorem dX8_schedule_22 : decode cX8_schedule 22 = .ok (.istore_n 1, 1) := by decide +kernel
theorem dX8_schedule_23 : decode cX8_schedule 23 = .ok (.iload_n 1, 1) := by decide +kernel
theorem dX8_schedule_24 : decode cX8_schedule 24 = .ok (.aload_n 0, 1) := by decide +kernel
theorem dX8_schedule_25 : decode cX8_schedule 25 = .ok (.getfield 33, 3) := by decide +kernel
theorem dX8_schedule_28 : decode cX8_schedule 28 = .ok (.getfield 222, 3) := by decide +kernel
theorem dX8_schedule_31 : decode cX8_schedule 31 = .ok (.if_icmp .ge 21, 3) := by decide +kernel
theorem dX8_schedule_34 : decode cX8_schedule 34 = .ok (.aload_n 0, 1) := by decide +kernel
theorem dX8_schedule_35 : decode cX8_schedule 35 = .ok (.iload_n 1, 1) := by decide +kernel
theorem dX8_schedule_36 : decode cX8_schedule 36 = .ok (.invokevirtual 225, 3) := by decide +kernel
theorem dX8_schedule_39 : decode cX8_schedule 39 = .ok (.ifCond .ne 7, 3) := by decide +kernel
theorem dX8_schedule_42 : decode cX8_schedule 42 = .ok (.sipush (-1001), 3) := by decide +kernel
theorem dX8_schedule_45 : decode cX8_schedule 45 = .ok (.ireturn, 1) := by decide +kernel
theorem dX8_schedule_46 : decode cX8_schedule 46 = .ok (.iinc 1 1, 3) := by decide +kernel
theorem dX8_schedule_49 : decode cX8_schedule 49 = .ok (.goto (-26), 3) := by decide +kernel
theorem dX8_schedule_52 : decode cX8_schedule 52 = .ok (.aload_n 0, 1) := by decide +kernel
theorem dX8_schedule_53 : decode cX8_schedule 53 = .ok (.getfield 10, 3) := by decide +kernel
theorem dX8_schedule_56 : decode cX8_schedule 56 = .ok (.getfield 228, 3) := by decide +kernel
theorem dX8_schedule_59 : decode cX8_schedule 59 = .ok (.getfield 222, 3) := by decide +kernel
theorem dX8_schedule_62 : decode cX8_schedule 62 = .ok (.aload_n 0, 1) := by decide +kernel
theorem dX8_schedule_63 : decode cX8_schedule 63 = .ok (.getfield 33, 3) := by decide +kernel
theorem dX8_schedule_66 : decode cX8_schedule 66 = .ok (.getfield 222, 3) := by decide +kernel
theorem dX8_schedule_69 : decode cX8_schedule 69 = .ok (.iadd, 1) := by decide +kernel
theorem dX8_schedule_70 : decode cX8_schedule 70 = .ok (.bipush 24, 2) := by decide +kernel
theorem dX8_schedule_72 : decode cX8_schedule 72 = .ok (.if_icmp .le 7, 3) := by decide +kernel
theorem dX8_schedule_75 : decode cX8_schedule 75 = .ok (.sipush (-1002), 3) := by decide +kernel
theorem dX8_schedule_78 : decode cX8_schedule 78 = .ok (.ireturn, 1) := by decide +kernel
theorem dX8_schedule_79 : decode cX8_schedule 79 = .ok (.aload_n 0, 1) := by decide +kernel
theorem dX8_schedule_80 : decode cX8_schedule 80 = .ok (.getfield 10, 3) := by decide +kernel
theorem dX8_schedule_83 : decode cX8_schedule 83 = .ok (.getfield 228, 3) := by decide +kernel
theorem dX8_schedule_86 : decode cX8_schedule 86 = .ok (.aload_n 0, 1) := by decide +kernel
theorem dX8_schedule_87 : decode cX8_schedule 87 = .ok (.getfield 33, 3) := by decide +kernel
theorem dX8_schedule_90 : decode cX8_schedule 90 = .ok (.invokevirtual 231, 3) := by decide +kernel
theorem dX8_schedule_93 : decode cX8_schedule 93 = .ok (.aload_n 0, 1) := by decide +kernel
theorem dX8_schedule_94 : decode cX8_schedule 94 = .ok (.getfield 33, 3) := by decide +kernel
theorem dX8_schedule_97 : decode cX8_schedule 97 = .ok (.getfield 222, 3) := by decide +kernel
theorem dX8_schedule_100 : decode cX8_schedule 100 = .ok (.ireturn, 1) := by decide +kernel
theorem dX8_scheduled_0 : decode cX8_scheduled 0 = .ok (.aload_n 0, 1) := by decide +kernel
theorem dX8_scheduled_1 : decode cX8_scheduled 1 = .ok (.getfield 10, 3) := by decide +kernel
theorem dX8_scheduled_4 : decode cX8_scheduled 4 = .ok (.getfield 228, 3) := by decide +kernel
theorem dX8_scheduled_7 : decode cX8_scheduled 7 = .ok (.getfield 222, 3) := by decide +kernel
theorem dX8_scheduled_10 : decode cX8_scheduled 10 = .ok (.ireturn, 1) := by decide +kernel
theorem dX8_keep_0 : decode cX8_keep 0 = .ok (.iload_n 1, 1) := by decide +kernel
theorem dX8_keep_1 : decode cX8_keep 1 = .ok (.ifCond .lt 8, 3) := by decide +kernel
theorem dX8_keep_4 : decode cX8_keep 4 = .ok (.iload_n 1, 1) := by decide +kernel
theorem dX8_keep_5 : decode cX8_keep 5 = .ok (.iconst 2, 1) := by decide +kernel
theorem dX8_keep_6 : decode cX8_keep 6 = .ok (.if_icmp .lt 7, 3) := by decide +kernel
theorem dX8_keep_9 : decode cX8_keep 9 = .ok (.sipush (-1001), 3) := by decide +kernel
theorem dX8_keep_12 : decode cX8_keep 12 = .ok (.ireturn, 1) := by decide +kernel
theorem dX8_keep_13 : decode cX8_keep 13 = .ok (.aload_n 0, 1) := by decide +kernel
theorem dX8_keep_14 : decode cX8_keep 14 = .ok (.getfield 19, 3) := by decide +kernel
theorem dX8_keep_17 : decode cX8_keep 17 = .ok (.iload_n 1, 1) := by decide +kernel
theorem dX8_keep_18 : decode cX8_keep 18 = .ok (.aaload, 1) := by decide +kernel
theorem dX8_keep_19 : decode cX8_keep 19 = .ok (.ifnonnull 16, 3) := by decide +kernel
theorem dX8_keep_22 : decode cX8_keep 22 = .ok (.aload_n 0, 1) := by decide +kernel
theorem dX8_keep_23 : decode cX8_keep 23 = .ok (.getfield 19, 3) := by decide +kernel
theorem dX8_keep_26 : decode cX8_keep 26 = .ok (.iload_n 1, 1) := by decide +kernel
theorem dX8_keep_27 : decode cX8_keep 27 = .ok (.new 7, 3) := by decide +kernel
theorem dX8_keep_30 : decode cX8_keep 30 = .ok (.dup, 1) := by decide +kernel
theorem dX8_keep_31 : decode cX8_keep 31 = .ok (.invokespecial 9, 3) := by decide +kernel
theorem dX8_keep_34 : decode cX8_keep 34 = .ok (.aastore, 1) := by decide +kernel
theorem dX8_keep_35 : decode cX8_keep 35 = .ok (.aload_n 0, 1) := by decide +kernel
theorem dX8_keep_36 : decode cX8_keep 36 = .ok (.getfield 19, 3) := by decide +kernel
theorem dX8_keep_39 : decode cX8_keep 39 = .ok (.iload_n 1, 1) := by decide +kernel
theorem dX8_keep_40 : decode cX8_keep 40 = .ok (.aaload, 1) := by decide +kernel
theorem dX8_keep_41 : decode cX8_keep 41 = .ok (.aload_n 0, 1) := by decide +kernel
theorem dX8_keep_42 : decode cX8_keep 42 = .ok (.getfield 10, 3) := by decide +kernel
theorem dX8_keep_45 : decode cX8_keep 45 = .ok (.invokevirtual 207, 3) := by decide +kernel
theorem dX8_keep_48 : decode cX8_keep 48 = .ok (.aload_n 0, 1) := by decide +kernel
theorem dX8_keep_49 : decode cX8_keep 49 = .ok (.getfield 10, 3) := by decide +kernel
theorem dX8_keep_52 : decode cX8_keep 52 = .ok (.getfield 104, 3) := by decide +kernel
theorem dX8_keep_55 : decode cX8_keep 55 = .ok (.ireturn, 1) := by decide +kernel
theorem dX8_restore_0 : decode cX8_restore 0 = .ok (.iload_n 1, 1) := by decide +kernel
theorem dX8_restore_1 : decode cX8_restore 1 = .ok (.ifCond .lt 8, 3) := by decide +kernel
theorem dX8_restore_4 : decode cX8_restore 4 = .ok (.iload_n 1, 1) := by decide +kernel
theorem dX8_restore_5 : decode cX8_restore 5 = .ok (.iconst 2, 1) := by decide +kernel
theorem dX8_restore_6 : decode cX8_restore 6 = .ok (.if_icmp .lt 7, 3) := by decide +kernel
theorem dX8_restore_9 : decode cX8_restore 9 = .ok (.sipush (-1001), 3) := by decide +kernel
theorem dX8_restore_12 : decode cX8_restore 12 = .ok (.ireturn, 1) := by decide +kernel
theorem dX8_restore_13 : decode cX8_restore 13 = .ok (.aload_n 0, 1) := by decide +kernel
theorem dX8_restore_14 : decode cX8_restore 14 = .ok (.getfield 19, 3) := by decide +kernel
theorem dX8_restore_17 : decode cX8_restore 17 = .ok (.iload_n 1, 1) := by decide +kernel
theorem dX8_restore_18 : decode cX8_restore 18 = .ok (.aaload, 1) := by decide +kernel
theorem dX8_restore_19 : decode cX8_restore 19 = .ok (.ifnonnull 7, 3) := by decide +kernel
theorem dX8_restore_22 : decode cX8_restore 22 = .ok (.sipush (-1003), 3) := by decide +kernel
theorem dX8_restore_25 : decode cX8_restore 25 = .ok (.ireturn, 1) := by decide +kernel
theorem dX8_restore_26 : decode cX8_restore 26 = .ok (.aload_n 0, 1) := by decide +kernel
theorem dX8_restore_27 : decode cX8_restore 27 = .ok (.getfield 10, 3) := by decide +kernel
theorem dX8_restore_30 : decode cX8_restore 30 = .ok (.aload_n 0, 1) := by decide +kernel
theorem dX8_restore_31 : decode cX8_restore 31 = .ok (.getfield 19, 3) := by decide +kernel
theorem dX8_restore_34 : decode cX8_restore 34 = .ok (.iload_n 1, 1) := by decide +kernel
theorem dX8_restore_35 : decode cX8_restore 35 = .ok (.aaload, 1) := by decide +kernel
theorem dX8_restore_36 : decode cX8_restore 36 = .ok (.invokevirtual 207, 3) := by decide +kernel
theorem dX8_restore_39 : decode cX8_restore 39 = .ok (.aload_n 0, 1) := by decide +kernel
theorem dX8_restore_40 : decode cX8_restore 40 = .ok (.getfield 10, 3) := by decide +kernel
theorem dX8_restore_43 : decode cX8_restore 43 = .ok (.getfield 104, 3) := by decide +kernel
theorem dX8_restore_46 : decode cX8_restore 46 = .ok (.ireturn, 1) := by decide +kernel
theorem dX8_checksum_0 : decode cX8_checksum 0 = .ok (.ldc2_w 235, 3) := by decide +kernel
theorem dX8_checksum_3 : decode cX8_checksum 3 = .ok (.lstore_n 1, 1) := by decide +kernel
theorem dX8_checksum_4 : decode cX8_checksum 4 = .ok (.ldc2_w 237, 3) := by decide +kernel
theorem dX8_checksum_7 : decode cX8_checksum 7 = .ok (.lload_n 1, 1) := by decide +kernel
theorem dX8_checksum_8 : decode cX8_checksum 8 = .ok (.lmul, 1) := by decide +kernel
theorem dX8_checksum_9 : decode cX8_checksum 9 = .ok (.aload_n 0, 1) := by decide +kernel
theorem dX8_checksum_10 : decode cX8_checksum 10 = .ok (.invokevirtual 239, 3) := by decide +kernel
theorem dX8_checksum_13 : decode cX8_checksum 13 = .ok (.i2l, 1) := by decide +kernel
theorem dX8_checksum_14 : decode cX8_checksum 14 = .ok (.ladd, 1) := by decide +kernel
theorem dX8_checksum_15 : decode cX8_checksum 15 = .ok (.lstore_n 1, 1) := by decide +kernel
theorem dX8_checksum_16 : decode cX8_checksum 16 = .ok (.ldc2_w 237, 3) := by decide +kernel
theorem dX8_checksum_19 : decode cX8_checksum 19 = .ok (.lload_n 1, 1) := by decide +kernel
theorem dX8_checksum_20 : decode cX8_checksum 20 = .ok (.lmul, 1) := by decide +kernel
theorem dX8_checksum_21 : decode cX8_checksum 21 = .ok (.aload_n 0, 1) := by decide +kernel
theorem dX8_checksum_22 : decode cX8_checksum 22 = .ok (.invokevirtual 241, 3) := by decide +kernel
theorem dX8_checksum_25 : decode cX8_checksum 25 = .ok (.i2l, 1) := by decide +kernel
theorem dX8_checksum_26 : decode cX8_checksum 26 = .ok (.ladd, 1) := by decide +kernel
theorem dX8_checksum_27 : decode cX8_checksum 27 = .ok (.lstore_n 1, 1) := by decide +kernel
theorem dX8_checksum_28 : decode cX8_checksum 28 = .ok (.ldc2_w 237, 3) := by decide +kernel
theorem dX8_checksum_31 : decode cX8_checksum 31 = .ok (.lload_n 1, 1) := by decide +kernel
theorem dX8_checksum_32 : decode cX8_checksum 32 = .ok (.lmul, 1) := by decide +kernel
theorem dX8_checksum_33 : decode cX8_checksum 33 = .ok (.aload_n 0, 1) := by decide +kernel
theorem dX8_checksum_34 : decode cX8_checksum 34 = .ok (.invokevirtual 243, 3) := by decide +kernel
theorem dX8_checksum_37 : decode cX8_checksum 37 = .ok (.i2l, 1) := by decide +kernel
theorem dX8_checksum_38 : decode cX8_checksum 38 = .ok (.ladd, 1) := by decide +kernel
theorem dX8_checksum_39 : decode cX8_checksum 39 = .ok (.lstore_n 1, 1) := by decide +kernel
theorem dX8_checksum_40 : decode cX8_checksum 40 = .ok (.ldc2_w 237, 3) := by decide +kernel
theorem dX8_checksum_43 : decode cX8_checksum 43 = .ok (.lload_n 1, 1) := by decide +kernel
theorem dX8_checksum_44 : decode cX8_checksum 44 = .ok (.lmul, 1) := by decide +kernel
theorem dX8_checksum_45 : decode cX8_checksum 45 = .ok (.aload_n 0, 1) := by decide +kernel
theorem dX8_checksum_46 : decode cX8_checksum 46 = .ok (.invokevirtual 245, 3) := by decide +kernel
theorem dX8_checksum_49 : decode cX8_checksum 49 = .ok (.i2l, 1) := by decide +kernel
theorem dX8_checksum_50 : decode cX8_checksum 50 = .ok (.ladd, 1) := by decide +kernel
theorem dX8_checksum_51 : decode cX8_checksum 51 = .ok (.lstore_n 1, 1) := by decide +kernel
theorem dX8_checksum_52 : decode cX8_checksum 52 = .ok (.ldc2_w 237, 3) := by decide +kernel
theorem dX8_checksum_55 : decode cX8_checksum 55 = .ok (.lload_n 1, 1) := by decide +kernel
theorem dX8_checksum_56 : decode cX8_checksum 56 = .ok (.lmul, 1) := by decide +kernel
theorem dX8_checksum_57 : decode cX8_checksum 57 = .ok (.aload_n 0, 1) := by decide +kernel
theorem dX8_checksum_58 : decode cX8_checksum 58 = .ok (.invokevirtual 248, 3) := by decide +kernel
theorem dX8_checksum_61 : decode cX8_checksum 61 = .ok (.i2l, 1) := by decide +kernel
theorem dX8_checksum_62 : decode cX8_checksum 62 = .ok (.ladd, 1) := by decide +kernel
theorem dX8_checksum_63 : decode cX8_checksum 63 = .ok (.lstore_n 1, 1) := by decide +kernel
theorem dX8_checksum_64 : decode cX8_checksum 64 = .ok (.ldc2_w 237, 3) := by decide +kernel
theorem dX8_checksum_67 : decode cX8_checksum 67 = .ok (.lload_n 1, 1) := by decide +kernel
theorem dX8_checksum_68 : decode cX8_checksum 68 = .ok (.lmul, 1) := by decide +kernel
theorem dX8_checksum_69 : decode cX8_checksum 69 = .ok (.aload_n 0, 1) := by decide +kernel
theorem dX8_checksum_70 : decode cX8_checksum 70 = .ok (.invokevirtual 250, 3) := by decide +kernel
theorem dX8_checksum_73 : decode cX8_checksum 73 = .ok (.i2l, 1) := by decide +kernel
theorem dX8_checksum_74 : decode cX8_checksum 74 = .ok (.ladd, 1) := by decide +kernel
theorem dX8_checksum_75 : decode cX8_checksum 75 = .ok (.lstore_n 1, 1) := by decide +kernel
theorem dX8_checksum_76 : decode cX8_checksum 76 = .ok (.ldc2_w 237, 3) := by decide +kernel
theorem dX8_checksum_79 : decode cX8_checksum 79 = .ok (.lload_n 1, 1) := by decide +kernel
theorem dX8_checksum_80 : decode cX8_checksum 80 = .ok (.lmul, 1) := by decide +kernel
theorem dX8_checksum_81 : decode cX8_checksum 81 = .ok (.aload_n 0, 1) := by decide +kernel
theorem dX8_checksum_82 : decode cX8_checksum 82 = .ok (.invokevirtual 253, 3) := by decide +kernel
theorem dX8_checksum_85 : decode cX8_checksum 85 = .ok (.i2l, 1) := by decide +kernel
theorem dX8_checksum_86 : decode cX8_checksum 86 = .ok (.ladd, 1) := by decide +kernel
theorem dX8_checksum_87 : decode cX8_checksum 87 = .ok (.lstore_n 1, 1) := by decide +kernel
theorem dX8_checksum_88 : decode cX8_checksum 88 = .ok (.ldc2_w 237, 3) := by decide +kernel
theorem dX8_checksum_91 : decode cX8_checksum 91 = .ok (.lload_n 1, 1) := by decide +kernel
theorem dX8_checksum_92 : decode cX8_checksum 92 = .ok (.lmul, 1) := by decide +kernel
theorem dX8_checksum_93 : decode cX8_checksum 93 = .ok (.aload_n 0, 1) := by decide +kernel
theorem dX8_checksum_94 : decode cX8_checksum 94 = .ok (.invokevirtual 256, 3) := by decide +kernel
theorem dX8_checksum_97 : decode cX8_checksum 97 = .ok (.i2l, 1) := by decide +kernel
theorem dX8_checksum_98 : decode cX8_checksum 98 = .ok (.ladd, 1) := by decide +kernel
theorem dX8_checksum_99 : decode cX8_checksum 99 = .ok (.lstore_n 1, 1) := by decide +kernel
theorem dX8_checksum_100 : decode cX8_checksum 100 = .ok (.iconst 1, 1) := by decide +kernel
theorem dX8_checksum_101 : decode cX8_checksum 101 = .ok (.istore_n 3, 1) := by decide +kernel
theorem dX8_checksum_102 : decode cX8_checksum 102 = .ok (.iload_n 3, 1) := by decide +kernel
theorem dX8_checksum_103 : decode cX8_checksum 103 = .ok (.iconst 3, 1) := by decide +kernel
theorem dX8_checksum_104 : decode cX8_checksum 104 = .ok (.if_icmp .gt 22, 3) := by decide +kernel
theorem dX8_checksum_107 : decode cX8_checksum 107 = .ok (.ldc2_w 237, 3) := by decide +kernel
theorem dX8_checksum_110 : decode cX8_checksum 110 = .ok (.lload_n 1, 1) := by decide +kernel
theorem dX8_checksum_111 : decode cX8_checksum 111 = .ok (.lmul, 1) := by decide +kernel
theorem dX8_checksum_112 : decode cX8_checksum 112 = .ok (.aload_n 0, 1) := by decide +kernel
theorem dX8_checksum_113 : decode cX8_checksum 113 = .ok (.iload_n 3, 1) := by decide +kernel
theorem dX8_checksum_114 : decode cX8_checksum 114 = .ok (.invokevirtual 258, 3) := by decide +kernel
theorem dX8_checksum_117 : decode cX8_checksum 117 = .ok (.i2l, 1) := by decide +kernel
theorem dX8_checksum_118 : decode cX8_checksum 118 = .ok (.ladd, 1) := by decide +kernel
theorem dX8_checksum_119 : decode cX8_checksum 119 = .ok (.lstore_n 1, 1) := by decide +kernel
theorem dX8_checksum_120 : decode cX8_checksum 120 = .ok (.iinc 3 1, 3) := by decide +kernel
theorem dX8_checksum_123 : decode cX8_checksum 123 = .ok (.goto (-21), 3) := by decide +kernel
theorem dX8_checksum_126 : decode cX8_checksum 126 = .ok (.ldc2_w 237, 3) := by decide +kernel
theorem dX8_checksum_129 : decode cX8_checksum 129 = .ok (.lload_n 1, 1) := by decide +kernel
theorem dX8_checksum_130 : decode cX8_checksum 130 = .ok (.lmul, 1) := by decide +kernel
theorem dX8_checksum_131 : decode cX8_checksum 131 = .ok (.aload_n 0, 1) := by decide +kernel
theorem dX8_checksum_132 : decode cX8_checksum 132 = .ok (.invokevirtual 261, 3) := by decide +kernel
theorem dX8_checksum_135 : decode cX8_checksum 135 = .ok (.i2l, 1) := by decide +kernel
theorem dX8_checksum_136 : decode cX8_checksum 136 = .ok (.ladd, 1) := by decide +kernel
theorem dX8_checksum_137 : decode cX8_checksum 137 = .ok (.lstore_n 1, 1) := by decide +kernel
theorem dX8_checksum_138 : decode cX8_checksum 138 = .ok (.ldc2_w 237, 3) := by decide +kernel
theorem dX8_checksum_141 : decode cX8_checksum 141 = .ok (.lload_n 1, 1) := by decide +kernel
theorem dX8_checksum_142 : decode cX8_checksum 142 = .ok (.lmul, 1) := by decide +kernel
theorem dX8_checksum_143 : decode cX8_checksum 143 = .ok (.aload_n 0, 1) := by decide +kernel
theorem dX8_checksum_144 : decode cX8_checksum 144 = .ok (.invokevirtual 263, 3) := by decide +kernel
theorem dX8_checksum_147 : decode cX8_checksum 147 = .ok (.i2l, 1) := by decide +kernel
theorem dX8_checksum_148 : decode cX8_checksum 148 = .ok (.ladd, 1) := by decide +kernel
theorem dX8_checksum_149 : decode cX8_checksum 149 = .ok (.lstore_n 1, 1) := by decide +kernel
theorem dX8_checksum_150 : decode cX8_checksum 150 = .ok (.ldc2_w 237, 3) := by decide +kernel
theorem dX8_checksum_153 : decode cX8_checksum 153 = .ok (.lload_n 1, 1) := by decide +kernel
theorem dX8_checksum_154 : decode cX8_checksum 154 = .ok (.lmul, 1) := by decide +kernel
theorem dX8_checksum_155 : decode cX8_checksum 155 = .ok (.aload_n 0, 1) := by decide +kernel
theorem dX8_checksum_156 : decode cX8_checksum 156 = .ok (.invokevirtual 265, 3) := by decide +kernel
theorem dX8_checksum_159 : decode cX8_checksum 159 = .ok (.i2l, 1) := by decide +kernel
theorem dX8_checksum_160 : decode cX8_checksum 160 = .ok (.ladd, 1) := by decide +kernel
theorem dX8_checksum_161 : decode cX8_checksum 161 = .ok (.lstore_n 1, 1) := by decide +kernel
theorem dX8_checksum_162 : decode cX8_checksum 162 = .ok (.ldc2_w 237, 3) := by decide +kernel
theorem dX8_checksum_165 : decode cX8_checksum 165 = .ok (.lload_n 1, 1) := by decide +kernel
theorem dX8_checksum_166 : decode cX8_checksum 166 = .ok (.lmul, 1) := by decide +kernel
theorem dX8_checksum_167 : decode cX8_checksum 167 = .ok (.aload_n 0, 1) := by decide +kernel
theorem dX8_checksum_168 : decode cX8_checksum 168 = .ok (.invokevirtual 267, 3) := by decide +kernel
theorem dX8_checksum_171 : decode cX8_checksum 171 = .ok (.i2l, 1) := by decide +kernel
theorem dX8_checksum_172 : decode cX8_checksum 172 = .ok (.ladd, 1) := by decide +kernel
theorem dX8_checksum_173 : decode cX8_checksum 173 = .ok (.lstore_n 1, 1) := by decide +kernel
theorem dX8_checksum_174 : decode cX8_checksum 174 = .ok (.ldc2_w 237, 3) := by decide +kernel
theorem dX8_checksum_177 : decode cX8_checksum 177 = .ok (.lload_n 1, 1) := by decide +kernel
theorem dX8_checksum_178 : decode cX8_checksum 178 = .ok (.lmul, 1) := by decide +kernel
theorem dX8_checksum_179 : decode cX8_checksum 179 = .ok (.aload_n 0, 1) := by decide +kernel
theorem dX8_checksum_180 : decode cX8_checksum 180 = .ok (.invokevirtual 269, 3) := by decide +kernel
theorem dX8_checksum_183 : decode cX8_checksum 183 = .ok (.i2l, 1) := by decide +kernel
theorem dX8_checksum_184 : decode cX8_checksum 184 = .ok (.ladd, 1) := by decide +kernel
theorem dX8_checksum_185 : decode cX8_checksum 185 = .ok (.lstore_n 1, 1) := by decide +kernel
theorem dX8_checksum_186 : decode cX8_checksum 186 = .ok (.ldc2_w 237, 3) := by decide +kernel
theorem dX8_checksum_189 : decode cX8_checksum 189 = .ok (.lload_n 1, 1) := by decide +kernel
theorem dX8_checksum_190 : decode cX8_checksum 190 = .ok (.lmul, 1) := by decide +kernel
theorem dX8_checksum_191 : decode cX8_checksum 191 = .ok (.aload_n 0, 1) := by decide +kernel
theorem dX8_checksum_192 : decode cX8_checksum 192 = .ok (.invokevirtual 271, 3) := by decide +kernel
theorem dX8_checksum_195 : decode cX8_checksum 195 = .ok (.i2l, 1) := by decide +kernel
theorem dX8_checksum_196 : decode cX8_checksum 196 = .ok (.ladd, 1) := by decide +kernel
theorem dX8_checksum_197 : decode cX8_checksum 197 = .ok (.lstore_n 1, 1) := by decide +kernel
theorem dX8_checksum_198 : decode cX8_checksum 198 = .ok (.iconst 1, 1) := by decide +kernel
theorem dX8_checksum_199 : decode cX8_checksum 199 = .ok (.istore_n 3, 1) := by decide +kernel
theorem dX8_checksum_200 : decode cX8_checksum 200 = .ok (.iload_n 3, 1) := by decide +kernel
theorem dX8_checksum_201 : decode cX8_checksum 201 = .ok (.bipush 64, 2) := by decide +kernel
theorem dX8_checksum_203 : decode cX8_checksum 203 = .ok (.if_icmp .gt 22, 3) := by decide +kernel
theorem dX8_checksum_206 : decode cX8_checksum 206 = .ok (.ldc2_w 237, 3) := by decide +kernel
theorem dX8_checksum_209 : decode cX8_checksum 209 = .ok (.lload_n 1, 1) := by decide +kernel
theorem dX8_checksum_210 : decode cX8_checksum 210 = .ok (.lmul, 1) := by decide +kernel
theorem dX8_checksum_211 : decode cX8_checksum 211 = .ok (.aload_n 0, 1) := by decide +kernel
theorem dX8_checksum_212 : decode cX8_checksum 212 = .ok (.iload_n 3, 1) := by decide +kernel
theorem dX8_checksum_213 : decode cX8_checksum 213 = .ok (.invokevirtual 274, 3) := by decide +kernel
theorem dX8_checksum_216 : decode cX8_checksum 216 = .ok (.i2l, 1) := by decide +kernel
theorem dX8_checksum_217 : decode cX8_checksum 217 = .ok (.ladd, 1) := by decide +kernel
theorem dX8_checksum_218 : decode cX8_checksum 218 = .ok (.lstore_n 1, 1) := by decide +kernel
theorem dX8_checksum_219 : decode cX8_checksum 219 = .ok (.iinc 3 1, 3) := by decide +kernel
theorem dX8_checksum_222 : decode cX8_checksum 222 = .ok (.goto (-22), 3) := by decide +kernel
theorem dX8_checksum_225 : decode cX8_checksum 225 = .ok (.iconst 1, 1) := by decide +kernel
theorem dX8_checksum_226 : decode cX8_checksum 226 = .ok (.istore_n 3, 1) := by decide +kernel
theorem dX8_checksum_227 : decode cX8_checksum 227 = .ok (.iload_n 3, 1) := by decide +kernel
theorem dX8_checksum_228 : decode cX8_checksum 228 = .ok (.bipush 16, 2) := by decide +kernel
theorem dX8_checksum_230 : decode cX8_checksum 230 = .ok (.if_icmp .gt 22, 3) := by decide +kernel
theorem dX8_checksum_233 : decode cX8_checksum 233 = .ok (.ldc2_w 237, 3) := by decide +kernel
theorem dX8_checksum_236 : decode cX8_checksum 236 = .ok (.lload_n 1, 1) := by decide +kernel
theorem dX8_checksum_237 : decode cX8_checksum 237 = .ok (.lmul, 1) := by decide +kernel
theorem dX8_checksum_238 : decode cX8_checksum 238 = .ok (.aload_n 0, 1) := by decide +kernel
theorem dX8_checksum_239 : decode cX8_checksum 239 = .ok (.iload_n 3, 1) := by decide +kernel
theorem dX8_checksum_240 : decode cX8_checksum 240 = .ok (.invokevirtual 277, 3) := by decide +kernel
theorem dX8_checksum_243 : decode cX8_checksum 243 = .ok (.i2l, 1) := by decide +kernel
theorem dX8_checksum_244 : decode cX8_checksum 244 = .ok (.ladd, 1) := by decide +kernel
theorem dX8_checksum_245 : decode cX8_checksum 245 = .ok (.lstore_n 1, 1) := by decide +kernel
theorem dX8_checksum_246 : decode cX8_checksum 246 = .ok (.iinc 3 1, 3) := by decide +kernel
theorem dX8_checksum_249 : decode cX8_checksum 249 = .ok (.goto (-22), 3) := by decide +kernel
theorem dX8_checksum_252 : decode cX8_checksum 252 = .ok (.iconst 0, 1) := by decide +kernel
theorem dX8_checksum_253 : decode cX8_checksum 253 = .ok (.istore_n 3, 1) := by decide +kernel
theorem dX8_checksum_254 : decode cX8_checksum 254 = .ok (.iload_n 3, 1) := by decide +kernel
theorem dX8_checksum_255 : decode cX8_checksum 255 = .ok (.bipush 99, 2) := by decide +kernel
theorem dX8_checksum_257 : decode cX8_checksum 257 = .ok (.if_icmp .gt 22, 3) := by decide +kernel
theorem dX8_checksum_260 : decode cX8_checksum 260 = .ok (.ldc2_w 237, 3) := by decide +kernel
theorem dX8_checksum_263 : decode cX8_checksum 263 = .ok (.lload_n 1, 1) := by decide +kernel
theorem dX8_checksum_264 : decode cX8_checksum 264 = .ok (.lmul, 1) := by decide +kernel
theorem dX8_checksum_265 : decode cX8_checksum 265 = .ok (.aload_n 0, 1) := by decide +kernel
theorem dX8_checksum_266 : decode cX8_checksum 266 = .ok (.iload_n 3, 1) := by decide +kernel
theorem dX8_checksum_267 : decode cX8_checksum 267 = .ok (.invokevirtual 280, 3) := by decide +kernel
theorem dX8_checksum_270 : decode cX8_checksum 270 = .ok (.i2l, 1) := by decide +kernel
theorem dX8_checksum_271 : decode cX8_checksum 271 = .ok (.ladd, 1) := by decide +kernel
theorem dX8_checksum_272 : decode cX8_checksum 272 = .ok (.lstore_n 1, 1) := by decide +kernel
theorem dX8_checksum_273 : decode cX8_checksum 273 = .ok (.iinc 3 1, 3) := by decide +kernel
theorem dX8_checksum_276 : decode cX8_checksum 276 = .ok (.goto (-22), 3) := by decide +kernel
theorem dX8_checksum_279 : decode cX8_checksum 279 = .ok (.lload_n 1, 1) := by decide +kernel
theorem dX8_checksum_280 : decode cX8_checksum 280 = .ok (.lreturn, 1) := by decide +kernel
theorem dX8_isFrame_0 : decode cX8_isFrame 0 = .ok (.iload_n 0, 1) := by decide +kernel
theorem dX8_isFrame_1 : decode cX8_isFrame 1 = .ok (.ifCond .lt 14, 3) := by decide +kernel
theorem dX8_isFrame_4 : decode cX8_isFrame 4 = .ok (.iload_n 0, 1) := by decide +kernel
theorem dX8_isFrame_5 : decode cX8_isFrame 5 = .ok (.sipush 999, 3) := by decide +kernel
theorem dX8_isFrame_8 : decode cX8_isFrame 8 = .ok (.if_icmp .gt 7, 3) := by decide +kernel
theorem dX8_isFrame_11 : decode cX8_isFrame 11 = .ok (.iconst 1, 1) := by decide +kernel
theorem dX8_isFrame_12 : decode cX8_isFrame 12 = .ok (.goto 4, 3) := by decide +kernel
theorem dX8_isFrame_15 : decode cX8_isFrame 15 = .ok (.iconst 0, 1) := by decide +kernel
theorem dX8_isFrame_16 : decode cX8_isFrame 16 = .ok (.ireturn, 1) := by decide +kernel
theorem dX8_canArrive_0 : decode cX8_canArrive 0 = .ok (.aload_n 0, 1) := by decide +kernel
theorem dX8_canArrive_1 : decode cX8_canArrive 1 = .ok (.getfield 33, 3) := by decide +kernel
theorem dX8_canArrive_4 : decode cX8_canArrive 4 = .ok (.getfield 283, 3) := by decide +kernel
theorem dX8_canArrive_7 : decode cX8_canArrive 7 = .ok (.iload_n 1, 1) := by decide +kernel
theorem dX8_canArrive_8 : decode cX8_canArrive 8 = .ok (.iaload, 1) := by decide +kernel
theorem dX8_canArrive_9 : decode cX8_canArrive 9 = .ok (.aload_n 0, 1) := by decide +kernel
theorem dX8_canArrive_10 : decode cX8_canArrive 10 = .ok (.getfield 10, 3) := by decide +kernel
theorem dX8_canArrive_13 : decode cX8_canArrive 13 = .ok (.getfield 104, 3) := by decide +kernel
theorem dX8_canArrive_16 : decode cX8_canArrive 16 = .ok (.if_icmp .gt 5, 3) := by decide +kernel
theorem dX8_canArrive_19 : decode cX8_canArrive 19 = .ok (.iconst 0, 1) := by decide +kernel
theorem dX8_canArrive_20 : decode cX8_canArrive 20 = .ok (.ireturn, 1) := by decide +kernel
theorem dX8_canArrive_21 : decode cX8_canArrive 21 = .ok (.aload_n 0, 1) := by decide +kernel
theorem dX8_canArrive_22 : decode cX8_canArrive 22 = .ok (.getfield 33, 3) := by decide +kernel
theorem dX8_canArrive_25 : decode cX8_canArrive 25 = .ok (.getfield 287, 3) := by decide +kernel
theorem dX8_canArrive_28 : decode cX8_canArrive 28 = .ok (.iload_n 1, 1) := by decide +kernel
theorem dX8_canArrive_29 : decode cX8_canArrive 29 = .ok (.iaload, 1) := by decide +kernel
theorem dX8_canArrive_30 : decode cX8_canArrive 30 = .ok (.istore_n 2, 1) := by decide +kernel
theorem dX8_canArrive_31 : decode cX8_canArrive 31 = .ok (.aload_n 0, 1) := by decide +kernel
theorem dX8_canArrive_32 : decode cX8_canArrive 32 = .ok (.getfield 33, 3) := by decide +kernel
theorem dX8_canArrive_35 : decode cX8_canArrive 35 = .ok (.getfield 290, 3) := by decide +kernel
theorem dX8_canArrive_38 : decode cX8_canArrive 38 = .ok (.iload_n 1, 1) := by decide +kernel
theorem dX8_canArrive_39 : decode cX8_canArrive 39 = .ok (.iaload, 1) := by decide +kernel
theorem dX8_canArrive_40 : decode cX8_canArrive 40 = .ok (.ifCond .ne 8, 3) := by decide +kernel
theorem dX8_canArrive_43 : decode cX8_canArrive 43 = .ok (.iload_n 2, 1) := by decide +kernel
theorem dX8_canArrive_44 : decode cX8_canArrive 44 = .ok (.invokestatic 76, 3) := by decide +kernel
theorem dX8_canArrive_47 : decode cX8_canArrive 47 = .ok (.ireturn, 1) := by decide +kernel
theorem dX8_canArrive_48 : decode cX8_canArrive 48 = .ok (.aload_n 0, 1) := by decide +kernel
theorem dX8_canArrive_49 : decode cX8_canArrive 49 = .ok (.getfield 10, 3) := by decide +kernel
theorem dX8_canArrive_52 : decode cX8_canArrive 52 = .ok (.getfield 43, 3) := by decide +kernel
theorem dX8_canArrive_55 : decode cX8_canArrive 55 = .ok (.aload_n 0, 1) := by decide +kernel
theorem dX8_canArrive_56 : decode cX8_canArrive 56 = .ok (.getfield 33, 3) := by decide +kernel
theorem dX8_canArrive_59 : decode cX8_canArrive 59 = .ok (.getfield 290, 3) := by decide +kernel
theorem dX8_canArrive_62 : decode cX8_canArrive 62 = .ok (.iload_n 1, 1) := by decide +kernel
theorem dX8_canArrive_63 : decode cX8_canArrive 63 = .ok (.iaload, 1) := by decide +kernel
theorem dX8_canArrive_64 : decode cX8_canArrive 64 = .ok (.iconst 1, 1) := by decide +kernel
theorem dX8_canArrive_65 : decode cX8_canArrive 65 = .ok (.if_icmp .ne 7, 3) := by decide +kernel
theorem dX8_canArrive_68 : decode cX8_canArrive 68 = .ok (.iconst 1, 1) := by decide +kernel
theorem dX8_canArrive_69 : decode cX8_canArrive 69 = .ok (.goto 4, 3) := by decide +kernel
theorem dX8_canArrive_72 : decode cX8_canArrive 72 = .ok (.iconst 0, 1) := by decide +kernel
theorem dX8_canArrive_73 : decode cX8_canArrive 73 = .ok (.iload_n 2, 1) := by decide +kernel
theorem dX8_canArrive_74 : decode cX8_canArrive 74 = .ok (.aload_n 0, 1) := by decide +kernel
theorem dX8_canArrive_75 : decode cX8_canArrive 75 = .ok (.getfield 33, 3) := by decide +kernel
theorem dX8_canArrive_78 : decode cX8_canArrive 78 = .ok (.getfield 293, 3) := by decide +kernel
theorem dX8_canArrive_81 : decode cX8_canArrive 81 = .ok (.iload_n 1, 1) := by decide +kernel
theorem dX8_canArrive_82 : decode cX8_canArrive 82 = .ok (.iaload, 1) := by decide +kernel
theorem dX8_canArrive_83 : decode cX8_canArrive 83 = .ok (.invokevirtual 84, 3) := by decide +kernel
theorem dX8_canArrive_86 : decode cX8_canArrive 86 = .ok (.ireturn, 1) := by decide +kernel
theorem dX8_commonDivisor_0 : decode cX8_commonDivisor 0 = .ok (.iload_n 0, 1) := by decide +kernel
theorem dX8_commonDivisor_1 : decode cX8_commonDivisor 1 = .ok (.istore_n 2, 1) := by decide +kernel
theorem dX8_commonDivisor_2 : decode cX8_commonDivisor 2 = .ok (.iload_n 1, 1) := by decide +kernel
theorem dX8_commonDivisor_3 : decode cX8_commonDivisor 3 = .ok (.istore_n 3, 1) := by decide +kernel
theorem dX8_commonDivisor_4 : decode cX8_commonDivisor 4 = .ok (.iconst 0, 1) := by decide +kernel
theorem dX8_commonDivisor_5 : decode cX8_commonDivisor 5 = .ok (.istore 4, 2) := by decide +kernel
theorem dX8_commonDivisor_7 : decode cX8_commonDivisor 7 = .ok (.iload 4, 2) := by decide +kernel
theorem dX8_commonDivisor_9 : decode cX8_commonDivisor 9 = .ok (.bipush 64, 2) := by decide +kernel
theorem dX8_commonDivisor_11 : decode cX8_commonDivisor 11 = .ok (.if_icmp .ge 23, 3) := by decide +kernel
theorem dX8_commonDivisor_14 : decode cX8_commonDivisor 14 = .ok (.iload_n 3, 1) := by decide +kernel
theorem dX8_commonDivisor_15 : decode cX8_commonDivisor 15 = .ok (.ifCond .eq 19, 3) := by decide +kernel
theorem dX8_commonDivisor_18 : decode cX8_commonDivisor 18 = .ok (.iload_n 2, 1) := by decide +kernel
theorem dX8_commonDivisor_19 : decode cX8_commonDivisor 19 = .ok (.iload_n 3, 1) := by decide +kernel
theorem dX8_commonDivisor_20 : decode cX8_commonDivisor 20 = .ok (.irem, 1) := by decide +kernel
theorem dX8_commonDivisor_21 : decode cX8_commonDivisor 21 = .ok (.istore 5, 2) := by decide +kernel
theorem dX8_commonDivisor_23 : decode cX8_commonDivisor 23 = .ok (.iload_n 3, 1) := by decide +kernel
theorem dX8_commonDivisor_24 : decode cX8_commonDivisor 24 = .ok (.istore_n 2, 1) := by decide +kernel
theorem dX8_commonDivisor_25 : decode cX8_commonDivisor 25 = .ok (.iload 5, 2) := by decide +kernel
theorem dX8_commonDivisor_27 : decode cX8_commonDivisor 27 = .ok (.istore_n 3, 1) := by decide +kernel
theorem dX8_commonDivisor_28 : decode cX8_commonDivisor 28 = .ok (.iinc 4 1, 3) := by decide +kernel
theorem dX8_commonDivisor_31 : decode cX8_commonDivisor 31 = .ok (.goto (-24), 3) := by decide +kernel
theorem dX8_commonDivisor_34 : decode cX8_commonDivisor 34 = .ok (.iload_n 2, 1) := by decide +kernel
theorem dX8_commonDivisor_35 : decode cX8_commonDivisor 35 = .ok (.ireturn, 1) := by decide +kernel
end
section
theorem dX9_init_0 : decode cX9_init 0 = .ok (.aload_n 0, 1) := by decide +kernel
theorem dX9_init_1 : decode cX9_init 1 = .ok (.invokespecial 1, 3) := by decide +kernel
theorem dX9_init_4 : decode cX9_init 4 = .ok (.aload_n 0, 1) := by decide +kernel
theorem dX9_init_5 : decode cX9_init 5 = .ok (.sipush 2484, 3) := by decide +kernel
theorem dX9_init_8 : decode cX9_init 8 = .ok (.newarray .int, 2) := by decide +kernel
theorem dX9_init_10 : decode cX9_init 10 = .ok (.putfield 7, 3) := by decide +kernel
theorem dX9_init_13 : decode cX9_init 13 = .ok (.aload_n 0, 1) := by decide +kernel
theorem dX9_init_14 : decode cX9_init 14 = .ok (.sipush 2484, 3) := by decide +kernel
theorem dX9_init_17 : decode cX9_init 17 = .ok (.newarray .int, 2) := by decide +kernel
theorem dX9_init_19 : decode cX9_init 19 = .ok (.putfield 13, 3) := by decide +kernel
theorem dX9_init_22 : decode cX9_init 22 = .ok (.aload_n 0, 1) := by decide +kernel
theorem dX9_init_23 : decode cX9_init 23 = .ok (.sipush 4968, 3) := by decide +kernel
theorem dX9_init_26 : decode cX9_init 26 = .ok (.newarray .int, 2) := by decide +kernel
theorem dX9_init_28 : decode cX9_init 28 = .ok (.putfield 16, 3) := by decide +kernel
theorem dX9_init_31 : decode cX9_init 31 = .ok (.aload_n 0, 1) := by decide +kernel
theorem dX9_init_32 : decode cX9_init 32 = .ok (.iconst 2, 1) := by decide +kernel
theorem dX9_init_33 : decode cX9_init 33 = .ok (.newarray .boolean, 2) := by decide +kernel
theorem dX9_init_35 : decode cX9_init 35 = .ok (.putfield 19, 3) := by decide +kernel
theorem dX9_init_38 : decode cX9_init 38 = .ok (.aload_n 0, 1) := by decide +kernel
theorem dX9_init_39 : decode cX9_init 39 = .ok (.bipush 120, 2) := by decide +kernel
theorem dX9_init_41 : decode cX9_init 41 = .ok (.newarray .int, 2) := by decide +kernel
theorem dX9_init_43 : decode cX9_init 43 = .ok (.putfield 23, 3) := by decide +kernel
theorem dX9_init_46 : decode cX9_init 46 = .ok (.aload_n 0, 1) := by decide +kernel
theorem dX9_init_47 : decode cX9_init 47 = .ok (.bipush 16, 2) := by decide +kernel
theorem dX9_init_49 : decode cX9_init 49 = .ok (.newarray .int, 2) := by decide +kernel
theorem dX9_init_51 : decode cX9_init 51 = .ok (.putfield 26, 3) := by decide +kernel
theorem dX9_init_54 : decode cX9_init 54 = .ok (.aload_n 0, 1) := by decide +kernel
theorem dX9_init_55 : decode cX9_init 55 = .ok (.bipush 16, 2) := by decide +kernel
theorem dX9_init_57 : decode cX9_init 57 = .ok (.newarray .int, 2) := by decide +kernel
theorem dX9_init_59 : decode cX9_init 59 = .ok (.putfield 29, 3) := by decide +kernel
theorem dX9_init_62 : decode cX9_init 62 = .ok (.aload_n 0, 1) := by decide +kernel
theorem dX9_init_63 : decode cX9_init 63 = .ok (.sipush 160, 3) := by decide +kernel
theorem dX9_init_66 : decode cX9_init 66 = .ok (.newarray .int, 2) := by decide +kernel
theorem dX9_init_68 : decode cX9_init 68 = .ok (.putfield 32, 3) := by decide +kernel
theorem dX9_init_71 : decode cX9_init 71 = .ok (.aload_n 0, 1) := by decide +kernel
theorem dX9_init_72 : decode cX9_init 72 = .ok (.getfield 7, 3) := by decide +kernel
theorem dX9_init_75 : decode cX9_init 75 = .ok (.iconst 0, 1) := by decide +kernel
theorem dX9_init_76 : decode cX9_init 76 = .ok (.bipush 8, 2) := by decide +kernel
theorem dX9_init_78 : decode cX9_init 78 = .ok (.iastore, 1) := by decide +kernel
theorem dX9_init_79 : decode cX9_init 79 = .ok (.aload_n 0, 1) := by decide +kernel
theorem dX9_init_80 : decode cX9_init 80 = .ok (.getfield 7, 3) := by decide +kernel
theorem dX9_init_83 : decode cX9_init 83 = .ok (.iconst 1, 1) := by decide +kernel
theorem dX9_init_84 : decode cX9_init 84 = .ok (.bipush 16, 2) := by decide +kernel
theorem dX9_init_86 : decode cX9_init 86 = .ok (.iastore, 1) := by decide +kernel
theorem dX9_init_87 : decode cX9_init 87 = .ok (.aload_n 0, 1) := by decide +kernel
theorem dX9_init_88 : decode cX9_init 88 = .ok (.getfield 7, 3) := by decide +kernel
theorem dX9_init_91 : decode cX9_init 91 = .ok (.iconst 2, 1) := by decide +kernel
theorem dX9_init_92 : decode cX9_init 92 = .ok (.bipush 25, 2) := by decide +kernel
theorem dX9_init_94 : decode cX9_init 94 = .ok (.iastore, 1) := by decide +kernel
theorem dX9_init_95 : decode cX9_init 95 = .ok (.aload_n 0, 1) := by decide +kernel
theorem dX9_init_96 : decode cX9_init 96 = .ok (.getfield 7, 3) := by decide +kernel
theorem dX9_init_99 : decode cX9_init 99 = .ok (.iconst 3, 1) := by decide +kernel
theorem dX9_init_100 : decode cX9_init 100 = .ok (.iconst 4, 1) := by decide +kernel
theorem dX9_init_101 : decode cX9_init 101 = .ok (.iastore, 1) := by decide +kernel
theorem dX9_init_102 : decode cX9_init 102 = .ok (.aload_n 0, 1) := by decide +kernel
theorem dX9_init_103 : decode cX9_init 103 = .ok (.getfield 7, 3) := by decide +kernel
theorem dX9_init_106 : decode cX9_init 106 = .ok (.iconst 4, 1) := by decide +kernel
theorem dX9_init_107 : decode cX9_init 107 = .ok (.iconst 4, 1) := by decide +kernel
theorem dX9_init_108 : decode cX9_init 108 = .ok (.iastore, 1) := by decide +kernel
theorem dX9_init_109 : decode cX9_init 109 = .ok (.aload_n 0, 1) := by decide +kernel
theorem dX9_init_110 : decode cX9_init 110 = .ok (.getfield 7, 3) := by decide +kernel
theorem dX9_init_113 : decode cX9_init 113 = .ok (.iconst 5, 1) := by decide +kernel
theorem dX9_init_114 : decode cX9_init 114 = .ok (.bipush 16, 2) := by decide +kernel
theorem dX9_init_116 : decode cX9_init 116 = .ok (.iastore, 1) := by decide +kernel
theorem dX9_init_117 : decode cX9_init 117 = .ok (.aload_n 0, 1) := by decide +kernel
theorem dX9_init_118 : decode cX9_init 118 = .ok (.getfield 7, 3) := by decide +kernel
theorem dX9_init_121 : decode cX9_init 121 = .ok (.bipush 6, 2) := by decide +kernel
theorem dX9_init_123 : decode cX9_init 123 = .ok (.bipush 90, 2) := by decide +kernel
theorem dX9_init_125 : decode cX9_init 125 = .ok (.iastore, 1) := by decide +kernel
theorem dX9_init_126 : decode cX9_init 126 = .ok (.aload_n 0, 1) := by decide +kernel
theorem dX9_init_127 : decode cX9_init 127 = .ok (.getfield 7, 3) := by decide +kernel
theorem dX9_init_130 : decode cX9_init 130 = .ok (.bipush 7, 2) := by decide +kernel
theorem dX9_init_132 : decode cX9_init 132 = .ok (.bipush 8, 2) := by decide +kernel
theorem dX9_init_134 : decode cX9_init 134 = .ok (.iastore, 1) := by decide +kernel
theorem dX9_init_135 : decode cX9_init 135 = .ok (.aload_n 0, 1) := by decide +kernel
theorem dX9_init_136 : decode cX9_init 136 = .ok (.getfield 7, 3) := by decide +kernel
theorem dX9_init_139 : decode cX9_init 139 = .ok (.bipush 8, 2) := by decide +kernel
theorem dX9_init_141 : decode cX9_init 141 = .ok (.iconst 1, 1) := by decide +kernel
theorem dX9_init_142 : decode cX9_init 142 = .ok (.iastore, 1) := by decide +kernel
theorem dX9_init_143 : decode cX9_init 143 = .ok (.aload_n 0, 1) := by decide +kernel
theorem dX9_init_144 : decode cX9_init 144 = .ok (.getfield 7, 3) := by decide +kernel
theorem dX9_init_147 : decode cX9_init 147 = .ok (.bipush 10, 2) := by decide +kernel
theorem dX9_init_149 : decode cX9_init 149 = .ok (.iconst (-1), 1) := by decide +kernel
theorem dX9_init_150 : decode cX9_init 150 = .ok (.iastore, 1) := by decide +kernel
theorem dX9_init_151 : decode cX9_init 151 = .ok (.return_, 1) := by decide +kernel
theorem dX9_in_0 : decode cX9_in 0 = .ok (.iload_n 0, 1) := by decide +kernel
theorem dX9_in_1 : decode cX9_in 1 = .ok (.iload_n 1, 1) := by decide +kernel
theorem dX9_in_2 : decode cX9_in 2 = .ok (.if_icmp .lt 12, 3) := by decide +kernel
theorem dX9_in_5 : decode cX9_in 5 = .ok (.iload_n 0, 1) := by decide +kernel
theorem dX9_in_6 : decode cX9_in 6 = .ok (.iload_n 2, 1) := by decide +kernel
theorem dX9_in_7 : decode cX9_in 7 = .ok (.if_icmp .gt 7, 3) := by decide +kernel
theorem dX9_in_10 : decode cX9_in 10 = .ok (.iconst 1, 1) := by decide +kernel
theorem dX9_in_11 : decode cX9_in 11 = .ok (.goto 4, 3) := by decide +kernel
theorem dX9_in_14 : decode cX9_in 14 = .ok (.iconst 0, 1) := by decide +kernel
theorem dX9_in_15 : decode cX9_in 15 = .ok (.ireturn, 1) := by decide +kernel
theorem dX9_size_0 : decode cX9_size 0 = .ok (.iload_n 0, 1) := by decide +kernel
theorem dX9_size_1 : decode cX9_size 1 = .ok (.ifCond .ge 8, 3) := by decide +kernel
theorem dX9_size_4 : decode cX9_size 4 = .ok (.iload_n 0, 1) := by decide +kernel
theorem dX9_size_5 : decode cX9_size 5 = .ok (.ineg, 1) := by decide +kernel
theorem dX9_size_6 : decode cX9_size 6 = .ok (.goto 4, 3) := by decide +kernel
theorem dX9_size_9 : decode cX9_size 9 = .ok (.iload_n 0, 1) := by decide +kernel
theorem dX9_size_10 : decode cX9_size 10 = .ok (.ireturn, 1) := by decide +kernel
theorem dX9_put_0 : decode cX9_put 0 = .ok (.aload_n 0, 1) := by decide +kernel
theorem dX9_put_1 : decode cX9_put 1 = .ok (.getfield 7, 3) := by decide +kernel
theorem dX9_put_4 : decode cX9_put 4 = .ok (.iload_n 1, 1) := by decide +kernel
theorem dX9_put_5 : decode cX9_put 5 = .ok (.iaload, 1) := by decide +kernel
theorem dX9_put_6 : decode cX9_put 6 = .ok (.istore_n 3, 1) := by decide +kernel
theorem dX9_put_7 : decode cX9_put 7 = .ok (.aload_n 0, 1) := by decide +kernel
theorem dX9_put_8 : decode cX9_put 8 = .ok (.getfield 7, 3) := by decide +kernel
theorem dX9_put_11 : decode cX9_put 11 = .ok (.iload_n 1, 1) := by decide +kernel
theorem dX9_put_12 : decode cX9_put 12 = .ok (.iload_n 2, 1) := by decide +kernel
theorem dX9_put_13 : decode cX9_put 13 = .ok (.iastore, 1) := by decide +kernel
theorem dX9_put_14 : decode cX9_put 14 = .ok (.iload_n 3, 1) := by decide +kernel
theorem dX9_put_15 : decode cX9_put 15 = .ok (.ireturn, 1) := by decide +kernel
theorem dX9_isBegun_0 : decode cX9_isBegun 0 = .ok (.aload_n 0, 1) := by decide +kernel
theorem dX9_isBegun_1 : decode cX9_isBegun 1 = .ok (.getfield 7, 3) := by decide +kernel
theorem dX9_isBegun_4 : decode cX9_isBegun 4 = .ok (.bipush 10, 2) := by decide +kernel
theorem dX9_isBegun_6 : decode cX9_isBegun 6 = .ok (.iaload, 1) := by decide +kernel
theorem dX9_isBegun_7 : decode cX9_isBegun 7 = .ok (.ifCond .ge 13, 3) := by decide +kernel
theorem dX9_isBegun_10 : decode cX9_isBegun 10 = .ok (.aload_n 0, 1) := by decide +kernel
theorem dX9_isBegun_11 : decode cX9_isBegun 11 = .ok (.getfield 7, 3) := by decide +kernel
theorem dX9_isBegun_14 : decode cX9_isBegun 14 = .ok (.bipush 25, 2) := by decide +kernel
theorem dX9_isBegun_16 : decode cX9_isBegun 16 = .ok (.iaload, 1) := by decide +kernel
theorem dX9_isBegun_17 : decode cX9_isBegun 17 = .ok (.ifCond .le 7, 3) := by decide +kernel
theorem dX9_isBegun_20 : decode cX9_isBegun 20 = .ok (.iconst 1, 1) := by decide +kernel
theorem dX9_isBegun_21 : decode cX9_isBegun 21 = .ok (.goto 4, 3) := by decide +kernel
theorem dX9_isBegun_24 : decode cX9_isBegun 24 = .ok (.iconst 0, 1) := by decide +kernel
theorem dX9_isBegun_25 : decode cX9_isBegun 25 = .ok (.ireturn, 1) := by decide +kernel
theorem dX9_setFrame_0 : decode cX9_setFrame 0 = .ok (.iload_n 1, 1) := by decide +kernel
theorem dX9_setFrame_1 : decode cX9_setFrame 1 = .ok (.iconst 4, 1) := by decide +kernel
theorem dX9_setFrame_2 : decode cX9_setFrame 2 = .ok (.bipush 16, 2) := by decide +kernel
theorem dX9_setFrame_4 : decode cX9_setFrame 4 = .ok (.invokestatic 35, 3) := by decide +kernel
theorem dX9_setFrame_7 : decode cX9_setFrame 7 = .ok (.ifCond .ne 7, 3) := by decide +kernel
theorem dX9_setFrame_10 : decode cX9_setFrame 10 = .ok (.sipush (-1001), 3) := by decide +kernel
theorem dX9_setFrame_13 : decode cX9_setFrame 13 = .ok (.ireturn, 1) := by decide +kernel
theorem dX9_setFrame_14 : decode cX9_setFrame 14 = .ok (.aload_n 0, 1) := by decide +kernel
theorem dX9_setFrame_15 : decode cX9_setFrame 15 = .ok (.invokevirtual 39, 3) := by decide +kernel
theorem dX9_setFrame_18 : decode cX9_setFrame 18 = .ok (.ifCond .eq 9, 3) := by decide +kernel
theorem dX9_setFrame_21 : decode cX9_setFrame 21 = .ok (.sipush (-1003), 3) := by decide +kernel
theorem dX9_setFrame_24 : decode cX9_setFrame 24 = .ok (.goto 9, 3) := by decide +kernel
theorem dX9_setFrame_27 : decode cX9_setFrame 27 = .ok (.aload_n 0, 1) := by decide +kernel
theorem dX9_setFrame_28 : decode cX9_setFrame 28 = .ok (.iconst 0, 1) := by decide +kernel
theorem dX9_setFrame_29 : decode cX9_setFrame 29 = .ok (.iload_n 1, 1) := by decide +kernel
theorem dX9_setFrame_30 : decode cX9_setFrame 30 = .ok (.invokevirtual 43, 3) := by decide +kernel
theorem dX9_setFrame_33 : decode cX9_setFrame 33 = .ok (.ireturn, 1) := by decide +kernel
theorem dX9_setWave_0 : decode cX9_setWave 0 = .ok (.iload_n 1, 1) := by decide +kernel
theorem dX9_setWave_1 : decode cX9_setWave 1 = .ok (.iconst 2, 1) := by decide +kernel
theorem dX9_setWave_2 : decode cX9_setWave 2 = .ok (.bipush 32, 2) := by decide +kernel
theorem dX9_setWave_4 : decode cX9_setWave 4 = .ok (.invokestatic 35, 3) := by decide +kernel
theorem dX9_setWave_7 : decode cX9_setWave 7 = .ok (.ifCond .eq 14, 3) := by decide +kernel
theorem dX9_setWave_10 : decode cX9_setWave 10 = .ok (.iload_n 2, 1) := by decide +kernel
theorem dX9_setWave_11 : decode cX9_setWave 11 = .ok (.iconst 1, 1) := by decide +kernel
theorem dX9_setWave_12 : decode cX9_setWave 12 = .ok (.sipush 200, 3) := by decide +kernel
theorem dX9_setWave_15 : decode cX9_setWave 15 = .ok (.invokestatic 35, 3) := by decide +kernel
theorem dX9_setWave_18 : decode cX9_setWave 18 = .ok (.ifCond .ne 7, 3) := by decide +kernel
theorem dX9_setWave_21 : decode cX9_setWave 21 = .ok (.sipush (-1001), 3) := by decide +kernel
theorem dX9_setWave_24 : decode cX9_setWave 24 = .ok (.ireturn, 1) := by decide +kernel
theorem dX9_setWave_25 : decode cX9_setWave 25 = .ok (.aload_n 0, 1) := by decide +kernel
theorem dX9_setWave_26 : decode cX9_setWave 26 = .ok (.invokevirtual 39, 3) := by decide +kernel
theorem dX9_setWave_29 : decode cX9_setWave 29 = .ok (.ifCond .eq 7, 3) := by decide +kernel
theorem dX9_setWave_32 : decode cX9_setWave 32 = .ok (.sipush (-1003), 3) := by decide +kernel
theorem dX9_setWave_35 : decode cX9_setWave 35 = .ok (.ireturn, 1) := by decide +kernel
theorem dX9_setWave_36 : decode cX9_setWave 36 = .ok (.sipush 1000, 3) := by decide +kernel
theorem dX9_setWave_39 : decode cX9_setWave 39 = .ok (.aload_n 0, 1) := by decide +kernel
theorem dX9_setWave_40 : decode cX9_setWave 40 = .ok (.iconst 1, 1) := by decide +kernel
theorem dX9_setWave_41 : decode cX9_setWave 41 = .ok (.iload_n 1, 1) := by decide +kernel
theorem dX9_setWave_42 : decode cX9_setWave 42 = .ok (.invokevirtual 43, 3) := by decide +kernel
theorem dX9_setWave_45 : decode cX9_setWave 45 = .ok (.imul, 1) := by decide +kernel
theorem dX9_setWave_46 : decode cX9_setWave 46 = .ok (.istore_n 3, 1) := by decide +kernel
theorem dX9_setWave_47 : decode cX9_setWave 47 = .ok (.iload_n 3, 1) := by decide +kernel
theorem dX9_setWave_48 : decode cX9_setWave 48 = .ok (.aload_n 0, 1) := by decide +kernel
theorem dX9_setWave_49 : decode cX9_setWave 49 = .ok (.iconst 2, 1) := by decide +kernel
theorem dX9_setWave_50 : decode cX9_setWave 50 = .ok (.iload_n 2, 1) := by decide +kernel
theorem dX9_setWave_51 : decode cX9_setWave 51 = .ok (.invokevirtual 43, 3) := by decide +kernel
theorem dX9_setWave_54 : decode cX9_setWave 54 = .ok (.iadd, 1) := by decide +kernel
theorem dX9_setWave_55 : decode cX9_setWave 55 = .ok (.ireturn, 1) := by decide +kernel
theorem dX9_setBlock_0 : decode cX9_setBlock 0 = .ok (.iload_n 1, 1) := by decide +kernel
theorem dX9_setBlock_1 : decode cX9_setBlock 1 = .ok (.iconst 2, 1) := by decide +kernel
theorem dX9_setBlock_2 : decode cX9_setBlock 2 = .ok (.bipush 6, 2) := by decide +kernel
theorem dX9_setBlock_4 : decode cX9_setBlock 4 = .ok (.invokestatic 35, 3) := by decide +kernel
theorem dX9_setBlock_7 : decode cX9_setBlock 7 = .ok (.ifCond .eq 13, 3) := by decide +kernel
theorem dX9_setBlock_10 : decode cX9_setBlock 10 = .ok (.iload_n 2, 1) := by decide +kernel
theorem dX9_setBlock_11 : decode cX9_setBlock 11 = .ok (.iconst 2, 1) := by decide +kernel
theorem dX9_setBlock_12 : decode cX9_setBlock 12 = .ok (.bipush 6, 2) := by decide +kernel
theorem dX9_setBlock_14 : decode cX9_setBlock 14 = .ok (.invokestatic 35, 3) := by decide +kernel
theorem dX9_setBlock_17 : decode cX9_setBlock 17 = .ok (.ifCond .ne 7, 3) := by decide +kernel
theorem dX9_setBlock_20 : decode cX9_setBlock 20 = .ok (.sipush (-1001), 3) := by decide +kernel
theorem dX9_setBlock_23 : decode cX9_setBlock 23 = .ok (.ireturn, 1) := by decide +kernel
theorem dX9_setBlock_24 : decode cX9_setBlock 24 = .ok (.aload_n 0, 1) := by decide +kernel
theorem dX9_setBlock_25 : decode cX9_setBlock 25 = .ok (.invokevirtual 39, 3) := by decide +kernel
theorem dX9_setBlock_28 : decode cX9_setBlock 28 = .ok (.ifCond .eq 7, 3) := by decide +kernel
theorem dX9_setBlock_31 : decode cX9_setBlock 31 = .ok (.sipush (-1003), 3) := by decide +kernel
theorem dX9_setBlock_34 : decode cX9_setBlock 34 = .ok (.ireturn, 1) := by decide +kernel
theorem dX9_setBlock_35 : decode cX9_setBlock 35 = .ok (.bipush 10, 2) := by decide +kernel
theorem dX9_setBlock_37 : decode cX9_setBlock 37 = .ok (.aload_n 0, 1) := by decide +kernel
theorem dX9_setBlock_38 : decode cX9_setBlock 38 = .ok (.iconst 3, 1) := by decide +kernel
theorem dX9_setBlock_39 : decode cX9_setBlock 39 = .ok (.iload_n 1, 1) := by decide +kernel
theorem dX9_setBlock_40 : decode cX9_setBlock 40 = .ok (.invokevirtual 43, 3) := by decide +kernel
theorem dX9_setBlock_43 : decode cX9_setBlock 43 = .ok (.imul, 1) := by decide +kernel
theorem dX9_setBlock_44 : decode cX9_setBlock 44 = .ok (.istore_n 3, 1) := by decide +kernel
theorem dX9_setBlock_45 : decode cX9_setBlock 45 = .ok (.iload_n 3, 1) := by decide +kernel
theorem dX9_setBlock_46 : decode cX9_setBlock 46 = .ok (.aload_n 0, 1) := by decide +kernel
theorem dX9_setBlock_47 : decode cX9_setBlock 47 = .ok (.iconst 4, 1) := by decide +kernel
theorem dX9_setBlock_48 : decode cX9_setBlock 48 = .ok (.iload_n 2, 1) := by decide +kernel
theorem dX9_setBlock_49 : decode cX9_setBlock 49 = .ok (.invokevirtual 43, 3) := by decide +kernel
theorem dX9_setBlock_52 : decode cX9_setBlock 52 = .ok (.iadd, 1) := by decide +kernel
theorem dX9_setBlock_53 : decode cX9_setBlock 53 = .ok (.ireturn, 1) := by decide +kernel
theorem dX9_setInitialDelay_0 : decode cX9_setInitialDelay 0 = .ok (.iload_n 1, 1) := by decide +kernel
theorem dX9_setInitialDelay_1 : decode cX9_setInitialDelay 1 = .ok (.iconst 0, 1) := by decide +kernel
theorem dX9_setInitialDelay_2 : decode cX9_setInitialDelay 2 = .ok (.sipush 200, 3) := by decide +kernel
theorem dX9_setInitialDelay_5 : decode cX9_setInitialDelay 5 = .ok (.invokestatic 35, 3) := by decide +kernel
theorem dX9_setInitialDelay_8 : decode cX9_setInitialDelay 8 = .ok (.ifCond .ne 7, 3) := by decide +kernel
theorem dX9_setInitialDelay_11 : decode cX9_setInitialDelay 11 = .ok (.sipush (-1001), 3) := by decide +kernel
theorem dX9_setInitialDelay_14 : decode cX9_setInitialDelay 14 = .ok (.ireturn, 1) := by decide +kernel
theorem dX9_setInitialDelay_15 : decode cX9_setInitialDelay 15 = .ok (.aload_n 0, 1) := by decide +kernel
theorem dX9_setInitialDelay_16 : decode cX9_setInitialDelay 16 = .ok (.invokevirtual 39, 3) := by decide +kernel
theorem dX9_setInitialDelay_19 : decode cX9_setInitialDelay 19 = .ok (.ifCond .eq 9, 3) := by decide +kernel
theorem dX9_setInitialDelay_22 : decode cX9_setInitialDelay 22 = .ok (.sipush (-1003), 3) := by decide +kernel
theorem dX9_setInitialDelay_25 : decode cX9_setInitialDelay 25 = .ok (.goto 9, 3) := by decide +kernel
theorem dX9_setInitialDelay_28 : decode cX9_setInitialDelay 28 = .ok (.aload_n 0, 1) := by decide +kernel
theorem dX9_setInitialDelay_29 : decode cX9_setInitialDelay 29 = .ok (.iconst 5, 1) := by decide +kernel
theorem dX9_setInitialDelay_30 : decode cX9_setInitialDelay 30 = .ok (.iload_n 1, 1) := by decide +kernel
theorem dX9_setInitialDelay_31 : decode cX9_setInitialDelay 31 = .ok (.invokevirtual 43, 3) := by decide +kernel
theorem dX9_setInitialDelay_34 : decode cX9_setInitialDelay 34 = .ok (.ireturn, 1) := by decide +kernel
theorem dX9_setQuantile_0 : decode cX9_setQuantile 0 = .ok (.iload_n 1, 1) := by decide +kernel
theorem dX9_setQuantile_1 : decode cX9_setQuantile 1 = .ok (.iconst 1, 1) := by decide +kernel
theorem dX9_setQuantile_2 : decode cX9_setQuantile 2 = .ok (.bipush 100, 2) := by decide +kernel
theorem dX9_setQuantile_4 : decode cX9_setQuantile 4 = .ok (.invokestatic 35, 3) := by decide +kernel
theorem dX9_setQuantile_7 : decode cX9_setQuantile 7 = .ok (.ifCond .eq 13, 3) := by decide +kernel
theorem dX9_setQuantile_10 : decode cX9_setQuantile 10 = .ok (.aload_n 0, 1) := by decide +kernel
theorem dX9_setQuantile_11 : decode cX9_setQuantile 11 = .ok (.bipush 6, 2) := by decide +kernel
theorem dX9_setQuantile_13 : decode cX9_setQuantile 13 = .ok (.iload_n 1, 1) := by decide +kernel
theorem dX9_setQuantile_14 : decode cX9_setQuantile 14 = .ok (.invokevirtual 43, 3) := by decide +kernel
theorem dX9_setQuantile_17 : decode cX9_setQuantile 17 = .ok (.goto 6, 3) := by decide +kernel
theorem dX9_setQuantile_20 : decode cX9_setQuantile 20 = .ok (.sipush (-1001), 3) := by decide +kernel
theorem dX9_setQuantile_23 : decode cX9_setQuantile 23 = .ok (.ireturn, 1) := by decide +kernel
theorem dX9_setMargin_0 : decode cX9_setMargin 0 = .ok (.iload_n 1, 1) := by decide +kernel
theorem dX9_setMargin_1 : decode cX9_setMargin 1 = .ok (.iconst 0, 1) := by decide +kernel
theorem dX9_setMargin_2 : decode cX9_setMargin 2 = .ok (.bipush 100, 2) := by decide +kernel
theorem dX9_setMargin_4 : decode cX9_setMargin 4 = .ok (.invokestatic 35, 3) := by decide +kernel
theorem dX9_setMargin_7 : decode cX9_setMargin 7 = .ok (.ifCond .eq 13, 3) := by decide +kernel
theorem dX9_setMargin_10 : decode cX9_setMargin 10 = .ok (.aload_n 0, 1) := by decide +kernel
theorem dX9_setMargin_11 : decode cX9_setMargin 11 = .ok (.bipush 7, 2) := by decide +kernel
theorem dX9_setMargin_13 : decode cX9_setMargin 13 = .ok (.iload_n 1, 1) := by decide +kernel
theorem dX9_setMargin_14 : decode cX9_setMargin 14 = .ok (.invokevirtual 43, 3) := by decide +kernel
theorem dX9_setMargin_17 : decode cX9_setMargin 17 = .ok (.goto 6, 3) := by decide +kernel
theorem dX9_setMargin_20 : decode cX9_setMargin 20 = .ok (.sipush (-1001), 3) := by decide +kernel
theorem dX9_setMargin_23 : decode cX9_setMargin 23 = .ok (.ireturn, 1) := by decide +kernel
theorem dX9_setAdapting_0 : decode cX9_setAdapting 0 = .ok (.aload_n 0, 1) := by decide +kernel
theorem dX9_setAdapting_1 : decode cX9_setAdapting 1 = .ok (.bipush 8, 2) := by decide +kernel
theorem dX9_setAdapting_3 : decode cX9_setAdapting 3 = .ok (.iload_n 1, 1) := by decide +kernel
theorem dX9_setAdapting_4 : decode cX9_setAdapting 4 = .ok (.ifCond .eq 7, 3) := by decide +kernel
theorem dX9_setAdapting_7 : decode cX9_setAdapting 7 = .ok (.iconst 1, 1) := by decide +kernel
theorem dX9_setAdapting_8 : decode cX9_setAdapting 8 = .ok (.goto 4, 3) := by decide +kernel
theorem dX9_setAdapting_11 : decode cX9_setAdapting 11 = .ok (.iconst 0, 1) := by decide +kernel
theorem dX9_setAdapting_12 : decode cX9_setAdapting 12 = .ok (.invokevirtual 43, 3) := by decide +kernel
theorem dX9_setAdapting_15 : decode cX9_setAdapting 15 = .ok (.ireturn, 1) := by decide +kernel
theorem dX9_isFrame_0 : decode cX9_isFrame 0 = .ok (.iload_n 0, 1) := by decide +kernel
theorem dX9_isFrame_1 : decode cX9_isFrame 1 = .ok (.iconst 0, 1) := by decide +kernel
theorem dX9_isFrame_2 : decode cX9_isFrame 2 = .ok (.sipush 999, 3) := by decide +kernel
theorem dX9_isFrame_5 : decode cX9_isFrame 5 = .ok (.invokestatic 35, 3) := by decide +kernel
theorem dX9_isFrame_8 : decode cX9_isFrame 8 = .ok (.ireturn, 1) := by decide +kernel
theorem dX9_area_0 : decode cX9_area 0 = .ok (.aload_n 0, 1) := by decide +kernel
theorem dX9_area_1 : decode cX9_area 1 = .ok (.getfield 7, 3) := by decide +kernel
theorem dX9_area_4 : decode cX9_area 4 = .ok (.iconst 3, 1) := by decide +kernel
theorem dX9_area_5 : decode cX9_area 5 = .ok (.iaload, 1) := by decide +kernel
theorem dX9_area_6 : decode cX9_area 6 = .ok (.aload_n 0, 1) := by decide +kernel
theorem dX9_area_7 : decode cX9_area 7 = .ok (.getfield 7, 3) := by decide +kernel
theorem dX9_area_10 : decode cX9_area 10 = .ok (.iconst 4, 1) := by decide +kernel
theorem dX9_area_11 : decode cX9_area 11 = .ok (.iaload, 1) := by decide +kernel
theorem dX9_area_12 : decode cX9_area 12 = .ok (.imul, 1) := by decide +kernel
theorem dX9_area_13 : decode cX9_area 13 = .ok (.ireturn, 1) := by decide +kernel
theorem dX9_isPacket_0 : decode cX9_isPacket 0 = .ok (.iload_n 2, 1) := by decide +kernel
theorem dX9_isPacket_1 : decode cX9_isPacket 1 = .ok (.iconst 0, 1) := by decide +kernel
theorem dX9_isPacket_2 : decode cX9_isPacket 2 = .ok (.sipush 999, 3) := by decide +kernel
theorem dX9_isPacket_5 : decode cX9_isPacket 5 = .ok (.aload_n 0, 1) := by decide +kernel
theorem dX9_isPacket_6 : decode cX9_isPacket 6 = .ok (.invokevirtual 47, 3) := by decide +kernel
theorem dX9_isPacket_9 : decode cX9_isPacket 9 = .ok (.idiv, 1) := by decide +kernel
theorem dX9_isPacket_10 : decode cX9_isPacket 10 = .ok (.invokestatic 35, 3) := by decide +kernel
theorem dX9_isPacket_13 : decode cX9_isPacket 13 = .ok (.ifCond .eq 36, 3) := by decide +kernel
theorem dX9_isPacket_16 : decode cX9_isPacket 16 = .ok (.iload_n 3, 1) := by decide +kernel
theorem dX9_isPacket_17 : decode cX9_isPacket 17 = .ok (.iconst 0, 1) := by decide +kernel
theorem dX9_isPacket_18 : decode cX9_isPacket 18 = .ok (.iload_n 1, 1) := by decide +kernel
theorem dX9_isPacket_19 : decode cX9_isPacket 19 = .ok (.ifCond .eq 12, 3) := by decide +kernel
theorem dX9_isPacket_22 : decode cX9_isPacket 22 = .ok (.aload_n 0, 1) := by decide +kernel
theorem dX9_isPacket_23 : decode cX9_isPacket 23 = .ok (.getfield 7, 3) := by decide +kernel
theorem dX9_isPacket_26 : decode cX9_isPacket 26 = .ok (.iconst 4, 1) := by decide +kernel
theorem dX9_isPacket_27 : decode cX9_isPacket 27 = .ok (.iaload, 1) := by decide +kernel
theorem dX9_isPacket_28 : decode cX9_isPacket 28 = .ok (.goto 9, 3) := by decide +kernel
theorem dX9_isPacket_31 : decode cX9_isPacket 31 = .ok (.aload_n 0, 1) := by decide +kernel
theorem dX9_isPacket_32 : decode cX9_isPacket 32 = .ok (.getfield 7, 3) := by decide +kernel
theorem dX9_isPacket_35 : decode cX9_isPacket 35 = .ok (.iconst 3, 1) := by decide +kernel
theorem dX9_isPacket_36 : decode cX9_isPacket 36 = .ok (.iaload, 1) := by decide +kernel
theorem dX9_isPacket_37 : decode cX9_isPacket 37 = .ok (.iconst 1, 1) := by decide +kernel
theorem dX9_isPacket_38 : decode cX9_isPacket 38 = .ok (.isub, 1) := by decide +kernel
theorem dX9_isPacket_39 : decode cX9_isPacket 39 = .ok (.invokestatic 35, 3) := by decide +kernel
theorem dX9_isPacket_42 : decode cX9_isPacket 42 = .ok (.ifCond .eq 7, 3) := by decide +kernel
theorem dX9_isPacket_45 : decode cX9_isPacket 45 = .ok (.iconst 1, 1) := by decide +kernel
theorem dX9_isPacket_46 : decode cX9_isPacket 46 = .ok (.goto 4, 3) := by decide +kernel
theorem dX9_isPacket_49 : decode cX9_isPacket 49 = .ok (.iconst 0, 1) := by decide +kernel
theorem dX9_isPacket_50 : decode cX9_isPacket 50 = .ok (.ireturn, 1) := by decide +kernel
theorem dX9_packet_0 : decode cX9_packet 0 = .ok (.iload_n 1, 1) := by decide +kernel
theorem dX9_packet_1 : decode cX9_packet 1 = .ok (.ifCond .eq 20, 3) := by decide +kernel
theorem dX9_packet_4 : decode cX9_packet 4 = .ok (.sipush 1030, 3) := by decide +kernel
theorem dX9_packet_7 : decode cX9_packet 7 = .ok (.aload_n 0, 1) := by decide +kernel
theorem dX9_packet_8 : decode cX9_packet 8 = .ok (.getfield 7, 3) := by decide +kernel
theorem dX9_packet_11 : decode cX9_packet 11 = .ok (.iconst 4, 1) := by decide +kernel
theorem dX9_packet_12 : decode cX9_packet 12 = .ok (.iaload, 1) := by decide +kernel
theorem dX9_packet_13 : decode cX9_packet 13 = .ok (.iload_n 2, 1) := by decide +kernel
theorem dX9_packet_14 : decode cX9_packet 14 = .ok (.imul, 1) := by decide +kernel
theorem dX9_packet_15 : decode cX9_packet 15 = .ok (.iadd, 1) := by decide +kernel
theorem dX9_packet_16 : decode cX9_packet 16 = .ok (.iload_n 3, 1) := by decide +kernel
theorem dX9_packet_17 : decode cX9_packet 17 = .ok (.iadd, 1) := by decide +kernel
theorem dX9_packet_18 : decode cX9_packet 18 = .ok (.goto 17, 3) := by decide +kernel
theorem dX9_packet_21 : decode cX9_packet 21 = .ok (.sipush 1542, 3) := by decide +kernel
theorem dX9_packet_24 : decode cX9_packet 24 = .ok (.aload_n 0, 1) := by decide +kernel
theorem dX9_packet_25 : decode cX9_packet 25 = .ok (.getfield 7, 3) := by decide +kernel
theorem dX9_packet_28 : decode cX9_packet 28 = .ok (.iconst 3, 1) := by decide +kernel
theorem dX9_packet_29 : decode cX9_packet 29 = .ok (.iaload, 1) := by decide +kernel
theorem dX9_packet_30 : decode cX9_packet 30 = .ok (.iload_n 2, 1) := by decide +kernel
theorem dX9_packet_31 : decode cX9_packet 31 = .ok (.imul, 1) := by decide +kernel
theorem dX9_packet_32 : decode cX9_packet 32 = .ok (.iadd, 1) := by decide +kernel
theorem dX9_packet_33 : decode cX9_packet 33 = .ok (.iload_n 3, 1) := by decide +kernel
theorem dX9_packet_34 : decode cX9_packet 34 = .ok (.iadd, 1) := by decide +kernel
theorem dX9_packet_35 : decode cX9_packet 35 = .ok (.ireturn, 1) := by decide +kernel
theorem dX9_covers_0 : decode cX9_covers 0 = .ok (.iload_n 1, 1) := by decide +kernel
theorem dX9_covers_1 : decode cX9_covers 1 = .ok (.ifCond .eq 12, 3) := by decide +kernel
theorem dX9_covers_4 : decode cX9_covers 4 = .ok (.aload_n 0, 1) := by decide +kernel
theorem dX9_covers_5 : decode cX9_covers 5 = .ok (.getfield 7, 3) := by decide +kernel
theorem dX9_covers_8 : decode cX9_covers 8 = .ok (.iconst 3, 1) := by decide +kernel
theorem dX9_covers_9 : decode cX9_covers 9 = .ok (.iaload, 1) := by decide +kernel
theorem dX9_covers_10 : decode cX9_covers 10 = .ok (.goto 9, 3) := by decide +kernel
theorem dX9_covers_13 : decode cX9_covers 13 = .ok (.aload_n 0, 1) := by decide +kernel
theorem dX9_covers_14 : decode cX9_covers 14 = .ok (.getfield 7, 3) := by decide +kernel
theorem dX9_covers_17 : decode cX9_covers 17 = .ok (.iconst 4, 1) := by decide +kernel
theorem dX9_covers_18 : decode cX9_covers 18 = .ok (.iaload, 1) := by decide +kernel
theorem dX9_covers_19 : decode cX9_covers 19 = .ok (.ireturn, 1) := by decide +kernel
theorem dX9_covered_0 : decode cX9_covered 0 = .ok (.aload_n 0, 1) := by decide +kernel
theorem dX9_covered_1 : decode cX9_covered 1 = .ok (.invokevirtual 47, 3) := by decide +kernel
theorem dX9_covered_4 : decode cX9_covered 4 = .ok (.iload_n 2, 1) := by decide +kernel
theorem dX9_covered_5 : decode cX9_covered 5 = .ok (.imul, 1) := by decide +kernel
theorem dX9_covered_6 : decode cX9_covered 6 = .ok (.iload_n 1, 1) := by decide +kernel
theorem dX9_covered_7 : decode cX9_covered 7 = .ok (.ifCond .eq 17, 3) := by decide +kernel
theorem dX9_covered_10 : decode cX9_covered 10 = .ok (.aload_n 0, 1) := by decide +kernel
theorem dX9_covered_11 : decode cX9_covered 11 = .ok (.getfield 7, 3) := by decide +kernel
theorem dX9_covered_14 : decode cX9_covered 14 = .ok (.iconst 3, 1) := by decide +kernel
theorem dX9_covered_15 : decode cX9_covered 15 = .ok (.iaload, 1) := by decide +kernel
theorem dX9_covered_16 : decode cX9_covered 16 = .ok (.iload_n 3, 1) := by decide +kernel
theorem dX9_covered_17 : decode cX9_covered 17 = .ok (.imul, 1) := by decide +kernel
theorem dX9_covered_18 : decode cX9_covered 18 = .ok (.iload 4, 2) := by decide +kernel
theorem dX9_covered_20 : decode cX9_covered 20 = .ok (.iadd, 1) := by decide +kernel
theorem dX9_covered_21 : decode cX9_covered 21 = .ok (.goto 14, 3) := by decide +kernel
theorem dX9_covered_24 : decode cX9_covered 24 = .ok (.aload_n 0, 1) := by decide +kernel
theorem dX9_covered_25 : decode cX9_covered 25 = .ok (.getfield 7, 3) := by decide +kernel
theorem dX9_covered_28 : decode cX9_covered 28 = .ok (.iconst 3, 1) := by decide +kernel
theorem dX9_covered_29 : decode cX9_covered 29 = .ok (.iaload, 1) := by decide +kernel
theorem dX9_covered_30 : decode cX9_covered 30 = .ok (.iload 4, 2) := by decide +kernel
theorem dX9_covered_32 : decode cX9_covered 32 = .ok (.imul, 1) := by decide +kernel
theorem dX9_covered_33 : decode cX9_covered 33 = .ok (.iload_n 3, 1) := by decide +kernel
theorem dX9_covered_34 : decode cX9_covered 34 = .ok (.iadd, 1) := by decide +kernel
theorem dX9_covered_35 : decode cX9_covered 35 = .ok (.iadd, 1) := by decide +kernel
theorem dX9_covered_36 : decode cX9_covered 36 = .ok (.ireturn, 1) := by decide +kernel
theorem dX9_isKnown_0 : decode cX9_isKnown 0 = .ok (.iload_n 1, 1) := by decide +kernel
theorem dX9_isKnown_1 : decode cX9_isKnown 1 = .ok (.sipush 999, 3) := by decide +kernel
theorem dX9_isKnown_4 : decode cX9_isKnown 4 = .ok (.if_icmp .gt 15, 3) := by decide +kernel
theorem dX9_isKnown_7 : decode cX9_isKnown 7 = .ok (.aload_n 0, 1) := by decide +kernel
theorem dX9_isKnown_8 : decode cX9_isKnown 8 = .ok (.getfield 7, 3) := by decide +kernel
theorem dX9_isKnown_11 : decode cX9_isKnown 11 = .ok (.bipush 30, 2) := by decide +kernel
theorem dX9_isKnown_13 : decode cX9_isKnown 13 = .ok (.iload_n 1, 1) := by decide +kernel
theorem dX9_isKnown_14 : decode cX9_isKnown 14 = .ok (.iadd, 1) := by decide +kernel
theorem dX9_isKnown_15 : decode cX9_isKnown 15 = .ok (.iaload, 1) := by decide +kernel
theorem dX9_isKnown_16 : decode cX9_isKnown 16 = .ok (.ifCond .le 7, 3) := by decide +kernel
theorem dX9_isKnown_19 : decode cX9_isKnown 19 = .ok (.iconst 1, 1) := by decide +kernel
theorem dX9_isKnown_20 : decode cX9_isKnown 20 = .ok (.goto 4, 3) := by decide +kernel
theorem dX9_isKnown_23 : decode cX9_isKnown 23 = .ok (.iconst 0, 1) := by decide +kernel
theorem dX9_isKnown_24 : decode cX9_isKnown 24 = .ok (.ireturn, 1) := by decide +kernel
theorem dX9_missingOf_0 : decode cX9_missingOf 0 = .ok (.iconst 0, 1) := by decide +kernel
theorem dX9_missingOf_1 : decode cX9_missingOf 1 = .ok (.istore 4, 2) := by decide +kernel
theorem dX9_missingOf_3 : decode cX9_missingOf 3 = .ok (.iconst 0, 1) := by decide +kernel
theorem dX9_missingOf_4 : decode cX9_missingOf 4 = .ok (.istore 5, 2) := by decide +kernel
theorem dX9_missingOf_6 : decode cX9_missingOf 6 = .ok (.iload 5, 2) := by decide +kernel
theorem dX9_missingOf_8 : decode cX9_missingOf 8 = .ok (.aload_n 0, 1) := by decide +kernel
theorem dX9_missingOf_9 : decode cX9_missingOf 9 = .ok (.iload_n 1, 1) := by decide +kernel
theorem dX9_missingOf_10 : decode cX9_missingOf 10 = .ok (.invokevirtual 51, 3) := by decide +kernel
theorem dX9_missingOf_13 : decode cX9_missingOf 13 = .ok (.if_icmp .ge 35, 3) := by decide +kernel
theorem dX9_missingOf_16 : decode cX9_missingOf 16 = .ok (.iload 4, 2) := by decide +kernel
theorem dX9_missingOf_18 : decode cX9_missingOf 18 = .ok (.aload_n 0, 1) := by decide +kernel
theorem dX9_missingOf_19 : decode cX9_missingOf 19 = .ok (.aload_n 0, 1) := by decide +kernel
theorem dX9_missingOf_20 : decode cX9_missingOf 20 = .ok (.iload_n 1, 1) := by decide +kernel
theorem dX9_missingOf_21 : decode cX9_missingOf 21 = .ok (.iload_n 2, 1) := by decide +kernel
theorem dX9_missingOf_22 : decode cX9_missingOf 22 = .ok (.iload_n 3, 1) := by decide +kernel
theorem dX9_missingOf_23 : decode cX9_missingOf 23 = .ok (.iload 5, 2) := by decide +kernel
theorem dX9_missingOf_25 : decode cX9_missingOf 25 = .ok (.invokevirtual 55, 3) := by decide +kernel
theorem dX9_missingOf_28 : decode cX9_missingOf 28 = .ok (.invokevirtual 59, 3) := by decide +kernel
theorem dX9_missingOf_31 : decode cX9_missingOf 31 = .ok (.ifCond .eq 7, 3) := by decide +kernel
theorem dX9_missingOf_34 : decode cX9_missingOf 34 = .ok (.iconst 0, 1) := by decide +kernel
theorem dX9_missingOf_35 : decode cX9_missingOf 35 = .ok (.goto 4, 3) := by decide +kernel
theorem dX9_missingOf_38 : decode cX9_missingOf 38 = .ok (.iconst 1, 1) := by decide +kernel
theorem dX9_missingOf_39 : decode cX9_missingOf 39 = .ok (.iadd, 1) := by decide +kernel
theorem dX9_missingOf_40 : decode cX9_missingOf 40 = .ok (.istore 4, 2) := by decide +kernel
theorem dX9_missingOf_42 : decode cX9_missingOf 42 = .ok (.iinc 5 1, 3) := by decide +kernel
theorem dX9_missingOf_45 : decode cX9_missingOf 45 = .ok (.goto (-39), 3) := by decide +kernel
theorem dX9_missingOf_48 : decode cX9_missingOf 48 = .ok (.iload 4, 2) := by decide +kernel
theorem dX9_missingOf_50 : decode cX9_missingOf 50 = .ok (.ireturn, 1) := by decide +kernel
theorem dX9_restoresBy_0 : decode cX9_restoresBy 0 = .ok (.aload_n 0, 1) := by decide +kernel
theorem dX9_restoresBy_1 : decode cX9_restoresBy 1 = .ok (.iload_n 1, 1) := by decide +kernel
theorem dX9_restoresBy_2 : decode cX9_restoresBy 2 = .ok (.iload_n 2, 1) := by decide +kernel
theorem dX9_restoresBy_3 : decode cX9_restoresBy 3 = .ok (.iload_n 3, 1) := by decide +kernel
theorem dX9_restoresBy_4 : decode cX9_restoresBy 4 = .ok (.invokevirtual 63, 3) := by decide +kernel
theorem dX9_restoresBy_7 : decode cX9_restoresBy 7 = .ok (.iconst 1, 1) := by decide +kernel
theorem dX9_restoresBy_8 : decode cX9_restoresBy 8 = .ok (.if_icmp .eq 5, 3) := by decide +kernel
theorem dX9_restoresBy_11 : decode cX9_restoresBy 11 = .ok (.iconst 0, 1) := by decide +kernel
theorem dX9_restoresBy_12 : decode cX9_restoresBy 12 = .ok (.ireturn, 1) := by decide +kernel
theorem dX9_restoresBy_13 : decode cX9_restoresBy 13 = .ok (.iconst 0, 1) := by decide +kernel
theorem dX9_restoresBy_14 : decode cX9_restoresBy 14 = .ok (.istore 4, 2) := by decide +kernel
theorem dX9_restoresBy_16 : decode cX9_restoresBy 16 = .ok (.iload 4, 2) := by decide +kernel
theorem dX9_restoresBy_18 : decode cX9_restoresBy 18 = .ok (.aload_n 0, 1) := by decide +kernel
theorem dX9_restoresBy_19 : decode cX9_restoresBy 19 = .ok (.iload_n 1, 1) := by decide +kernel
theorem dX9_restoresBy_20 : decode cX9_restoresBy 20 = .ok (.invokevirtual 51, 3) := by decide +kernel
theorem dX9_restoresBy_23 : decode cX9_restoresBy 23 = .ok (.if_icmp .ge 40, 3) := by decide +kernel
theorem dX9_restoresBy_26 : decode cX9_restoresBy 26 = .ok (.aload_n 0, 1) := by decide +kernel
theorem dX9_restoresBy_27 : decode cX9_restoresBy 27 = .ok (.iload_n 1, 1) := by decide +kernel
theorem dX9_restoresBy_28 : decode cX9_restoresBy 28 = .ok (.iload_n 2, 1) := by decide +kernel
theorem dX9_restoresBy_29 : decode cX9_restoresBy 29 = .ok (.iload_n 3, 1) := by decide +kernel
theorem dX9_restoresBy_30 : decode cX9_restoresBy 30 = .ok (.iload 4, 2) := by decide +kernel
theorem dX9_restoresBy_32 : decode cX9_restoresBy 32 = .ok (.invokevirtual 55, 3) := by decide +kernel
theorem dX9_restoresBy_35 : decode cX9_restoresBy 35 = .ok (.istore 5, 2) := by decide +kernel
theorem dX9_restoresBy_37 : decode cX9_restoresBy 37 = .ok (.aload_n 0, 1) := by decide +kernel
theorem dX9_restoresBy_38 : decode cX9_restoresBy 38 = .ok (.iload 5, 2) := by decide +kernel
theorem dX9_restoresBy_40 : decode cX9_restoresBy 40 = .ok (.invokevirtual 59, 3) := by decide +kernel
theorem dX9_restoresBy_43 : decode cX9_restoresBy 43 = .ok (.ifCond .ne 14, 3) := by decide +kernel
theorem dX9_restoresBy_46 : decode cX9_restoresBy 46 = .ok (.aload_n 0, 1) := by decide +kernel
theorem dX9_restoresBy_47 : decode cX9_restoresBy 47 = .ok (.getfield 7, 3) := by decide +kernel
theorem dX9_restoresBy_50 : decode cX9_restoresBy 50 = .ok (.bipush 30, 2) := by decide +kernel
theorem dX9_restoresBy_52 : decode cX9_restoresBy 52 = .ok (.iload 5, 2) := by decide +kernel
theorem dX9_restoresBy_54 : decode cX9_restoresBy 54 = .ok (.iadd, 1) := by decide +kernel
theorem dX9_restoresBy_55 : decode cX9_restoresBy 55 = .ok (.iconst 1, 1) := by decide +kernel
theorem dX9_restoresBy_56 : decode cX9_restoresBy 56 = .ok (.iastore, 1) := by decide +kernel
theorem dX9_restoresBy_57 : decode cX9_restoresBy 57 = .ok (.iinc 4 1, 3) := by decide +kernel
theorem dX9_restoresBy_60 : decode cX9_restoresBy 60 = .ok (.goto (-44), 3) := by decide +kernel
theorem dX9_restoresBy_63 : decode cX9_restoresBy 63 = .ok (.iconst 1, 1) := by decide +kernel
theorem dX9_restoresBy_64 : decode cX9_restoresBy 64 = .ok (.ireturn, 1) := by decide +kernel
theorem dX9_restores_0 : decode cX9_restores 0 = .ok (.iconst 0, 1) := by decide +kernel
theorem dX9_restores_1 : decode cX9_restores 1 = .ok (.istore_n 3, 1) := by decide +kernel
theorem dX9_restores_2 : decode cX9_restores 2 = .ok (.iconst (-1), 1) := by decide +kernel
theorem dX9_restores_3 : decode cX9_restores 3 = .ok (.istore 4, 2) := by decide +kernel
theorem dX9_restores_5 : decode cX9_restores 5 = .ok (.iload 4, 2) := by decide +kernel
theorem dX9_restores_7 : decode cX9_restores 7 = .ok (.iload_n 3, 1) := by decide +kernel
theorem dX9_restores_8 : decode cX9_restores 8 = .ok (.if_icmp .eq 121, 3) := by decide +kernel
theorem dX9_restores_11 : decode cX9_restores 11 = .ok (.iload_n 3, 1) := by decide +kernel
theorem dX9_restores_12 : decode cX9_restores 12 = .ok (.istore 4, 2) := by decide +kernel
theorem dX9_restores_14 : decode cX9_restores 14 = .ok (.iconst 0, 1) := by decide +kernel
theorem dX9_restores_15 : decode cX9_restores 15 = .ok (.istore 5, 2) := by decide +kernel
theorem dX9_restores_17 : decode cX9_restores 17 = .ok (.iload 5, 2) := by decide +kernel
theorem dX9_restores_19 : decode cX9_restores 19 = .ok (.aload_n 0, 1) := by decide +kernel
theorem dX9_restores_20 : decode cX9_restores 20 = .ok (.getfield 7, 3) := by decide +kernel
theorem dX9_restores_23 : decode cX9_restores 23 = .ok (.iconst 4, 1) := by decide +kernel
theorem dX9_restores_24 : decode cX9_restores 24 = .ok (.iaload, 1) := by decide +kernel
theorem dX9_restores_25 : decode cX9_restores 25 = .ok (.if_icmp .ge 45, 3) := by decide +kernel
theorem dX9_restores_28 : decode cX9_restores 28 = .ok (.iload_n 3, 1) := by decide +kernel
theorem dX9_restores_29 : decode cX9_restores 29 = .ok (.iload_n 2, 1) := by decide +kernel
theorem dX9_restores_30 : decode cX9_restores 30 = .ok (.ifCond .ne 20, 3) := by decide +kernel
theorem dX9_restores_33 : decode cX9_restores 33 = .ok (.aload_n 0, 1) := by decide +kernel
theorem dX9_restores_34 : decode cX9_restores 34 = .ok (.getfield 7, 3) := by decide +kernel
theorem dX9_restores_37 : decode cX9_restores 37 = .ok (.aload_n 0, 1) := by decide +kernel
theorem dX9_restores_38 : decode cX9_restores 38 = .ok (.iconst 1, 1) := by decide +kernel
theorem dX9_restores_39 : decode cX9_restores 39 = .ok (.iload_n 1, 1) := by decide +kernel
theorem dX9_restores_40 : decode cX9_restores 40 = .ok (.iload 5, 2) := by decide +kernel
theorem dX9_restores_42 : decode cX9_restores 42 = .ok (.invokevirtual 67, 3) := by decide +kernel
theorem dX9_restores_45 : decode cX9_restores 45 = .ok (.iaload, 1) := by decide +kernel
theorem dX9_restores_46 : decode cX9_restores 46 = .ok (.iconst 1, 1) := by decide +kernel
theorem dX9_restores_47 : decode cX9_restores 47 = .ok (.if_icmp .ne 14, 3) := by decide +kernel
theorem dX9_restores_50 : decode cX9_restores 50 = .ok (.aload_n 0, 1) := by decide +kernel
theorem dX9_restores_51 : decode cX9_restores 51 = .ok (.iconst 1, 1) := by decide +kernel
theorem dX9_restores_52 : decode cX9_restores 52 = .ok (.iload_n 1, 1) := by decide +kernel
theorem dX9_restores_53 : decode cX9_restores 53 = .ok (.iload 5, 2) := by decide +kernel
theorem dX9_restores_55 : decode cX9_restores 55 = .ok (.invokevirtual 70, 3) := by decide +kernel
theorem dX9_restores_58 : decode cX9_restores 58 = .ok (.goto 4, 3) := by decide +kernel
theorem dX9_restores_61 : decode cX9_restores 61 = .ok (.iconst 0, 1) := by decide +kernel
theorem dX9_restores_62 : decode cX9_restores 62 = .ok (.iadd, 1) := by decide +kernel
theorem dX9_restores_63 : decode cX9_restores 63 = .ok (.istore_n 3, 1) := by decide +kernel
theorem dX9_restores_64 : decode cX9_restores 64 = .ok (.iinc 5 1, 3) := by decide +kernel
theorem dX9_restores_67 : decode cX9_restores 67 = .ok (.goto (-50), 3) := by decide +kernel
theorem dX9_restores_70 : decode cX9_restores 70 = .ok (.iconst 0, 1) := by decide +kernel
theorem dX9_restores_71 : decode cX9_restores 71 = .ok (.istore 5, 2) := by decide +kernel
theorem dX9_restores_73 : decode cX9_restores 73 = .ok (.iload 5, 2) := by decide +kernel
theorem dX9_restores_75 : decode cX9_restores 75 = .ok (.aload_n 0, 1) := by decide +kernel
theorem dX9_restores_76 : decode cX9_restores 76 = .ok (.getfield 7, 3) := by decide +kernel
theorem dX9_restores_79 : decode cX9_restores 79 = .ok (.iconst 3, 1) := by decide +kernel
theorem dX9_restores_80 : decode cX9_restores 80 = .ok (.iaload, 1) := by decide +kernel
theorem dX9_restores_81 : decode cX9_restores 81 = .ok (.if_icmp .ge 45, 3) := by decide +kernel
theorem dX9_restores_84 : decode cX9_restores 84 = .ok (.iload_n 3, 1) := by decide +kernel
theorem dX9_restores_85 : decode cX9_restores 85 = .ok (.iload_n 2, 1) := by decide +kernel
theorem dX9_restores_86 : decode cX9_restores 86 = .ok (.ifCond .ne 20, 3) := by decide +kernel
theorem dX9_restores_89 : decode cX9_restores 89 = .ok (.aload_n 0, 1) := by decide +kernel
theorem dX9_restores_90 : decode cX9_restores 90 = .ok (.getfield 7, 3) := by decide +kernel
theorem dX9_restores_93 : decode cX9_restores 93 = .ok (.aload_n 0, 1) := by decide +kernel
theorem dX9_restores_94 : decode cX9_restores 94 = .ok (.iconst 0, 1) := by decide +kernel
theorem dX9_restores_95 : decode cX9_restores 95 = .ok (.iload_n 1, 1) := by decide +kernel
theorem dX9_restores_96 : decode cX9_restores 96 = .ok (.iload 5, 2) := by decide +kernel
theorem dX9_restores_98 : decode cX9_restores 98 = .ok (.invokevirtual 67, 3) := by decide +kernel
theorem dX9_restores_101 : decode cX9_restores 101 = .ok (.iaload, 1) := by decide +kernel
theorem dX9_restores_102 : decode cX9_restores 102 = .ok (.iconst 1, 1) := by decide +kernel
theorem dX9_restores_103 : decode cX9_restores 103 = .ok (.if_icmp .ne 14, 3) := by decide +kernel
theorem dX9_restores_106 : decode cX9_restores 106 = .ok (.aload_n 0, 1) := by decide +kernel
theorem dX9_restores_107 : decode cX9_restores 107 = .ok (.iconst 0, 1) := by decide +kernel
theorem dX9_restores_108 : decode cX9_restores 108 = .ok (.iload_n 1, 1) := by decide +kernel
theorem dX9_restores_109 : decode cX9_restores 109 = .ok (.iload 5, 2) := by decide +kernel
theorem dX9_restores_111 : decode cX9_restores 111 = .ok (.invokevirtual 70, 3) := by decide +kernel
theorem dX9_restores_114 : decode cX9_restores 114 = .ok (.goto 4, 3) := by decide +kernel
theorem dX9_restores_117 : decode cX9_restores 117 = .ok (.iconst 0, 1) := by decide +kernel
theorem dX9_restores_118 : decode cX9_restores 118 = .ok (.iadd, 1) := by decide +kernel
theorem dX9_restores_119 : decode cX9_restores 119 = .ok (.istore_n 3, 1) := by decide +kernel
theorem dX9_restores_120 : decode cX9_restores 120 = .ok (.iinc 5 1, 3) := by decide +kernel
theorem dX9_restores_123 : decode cX9_restores 123 = .ok (.goto (-50), 3) := by decide +kernel
theorem dX9_restores_126 : decode cX9_restores 126 = .ok (.goto (-121), 3) := by decide +kernel
theorem dX9_restores_129 : decode cX9_restores 129 = .ok (.iload_n 3, 1) := by decide +kernel
theorem dX9_restores_130 : decode cX9_restores 130 = .ok (.ireturn, 1) := by decide +kernel
theorem dX9_sampleOf_0 : decode cX9_sampleOf 0 = .ok (.iload_n 1, 1) := by decide +kernel
theorem dX9_sampleOf_1 : decode cX9_sampleOf 1 = .ok (.aload_n 0, 1) := by decide +kernel
theorem dX9_sampleOf_2 : decode cX9_sampleOf 2 = .ok (.getfield 7, 3) := by decide +kernel
theorem dX9_sampleOf_5 : decode cX9_sampleOf 5 = .ok (.iconst 0, 1) := by decide +kernel
theorem dX9_sampleOf_6 : decode cX9_sampleOf 6 = .ok (.iaload, 1) := by decide +kernel
theorem dX9_sampleOf_7 : decode cX9_sampleOf 7 = .ok (.imul, 1) := by decide +kernel
theorem dX9_sampleOf_8 : decode cX9_sampleOf 8 = .ok (.iload_n 2, 1) := by decide +kernel
theorem dX9_sampleOf_9 : decode cX9_sampleOf 9 = .ok (.iadd, 1) := by decide +kernel
theorem dX9_sampleOf_10 : decode cX9_sampleOf 10 = .ok (.istore_n 3, 1) := by decide +kernel
theorem dX9_sampleOf_11 : decode cX9_sampleOf 11 = .ok (.aload_n 0, 1) := by decide +kernel
theorem dX9_sampleOf_12 : decode cX9_sampleOf 12 = .ok (.getfield 7, 3) := by decide +kernel
theorem dX9_sampleOf_15 : decode cX9_sampleOf 15 = .ok (.iconst 2, 1) := by decide +kernel
theorem dX9_sampleOf_16 : decode cX9_sampleOf 16 = .ok (.iaload, 1) := by decide +kernel
theorem dX9_sampleOf_17 : decode cX9_sampleOf 17 = .ok (.iload_n 3, 1) := by decide +kernel
theorem dX9_sampleOf_18 : decode cX9_sampleOf 18 = .ok (.aload_n 0, 1) := by decide +kernel
theorem dX9_sampleOf_19 : decode cX9_sampleOf 19 = .ok (.getfield 7, 3) := by decide +kernel
theorem dX9_sampleOf_22 : decode cX9_sampleOf 22 = .ok (.iconst 1, 1) := by decide +kernel
theorem dX9_sampleOf_23 : decode cX9_sampleOf 23 = .ok (.iaload, 1) := by decide +kernel
theorem dX9_sampleOf_24 : decode cX9_sampleOf 24 = .ok (.irem, 1) := by decide +kernel
theorem dX9_sampleOf_25 : decode cX9_sampleOf 25 = .ok (.imul, 1) := by decide +kernel
theorem dX9_sampleOf_26 : decode cX9_sampleOf 26 = .ok (.sipush 201, 3) := by decide +kernel
theorem dX9_sampleOf_29 : decode cX9_sampleOf 29 = .ok (.irem, 1) := by decide +kernel
theorem dX9_sampleOf_30 : decode cX9_sampleOf 30 = .ok (.bipush 100, 2) := by decide +kernel
theorem dX9_sampleOf_32 : decode cX9_sampleOf 32 = .ok (.isub, 1) := by decide +kernel
theorem dX9_sampleOf_33 : decode cX9_sampleOf 33 = .ok (.ireturn, 1) := by decide +kernel
theorem dX9_begins_0 : decode cX9_begins 0 = .ok (.aload_n 0, 1) := by decide +kernel
theorem dX9_begins_1 : decode cX9_begins 1 = .ok (.getfield 7, 3) := by decide +kernel
theorem dX9_begins_4 : decode cX9_begins 4 = .ok (.bipush 10, 2) := by decide +kernel
theorem dX9_begins_6 : decode cX9_begins 6 = .ok (.iaload, 1) := by decide +kernel
theorem dX9_begins_7 : decode cX9_begins 7 = .ok (.ifCond .ge 24, 3) := by decide +kernel
theorem dX9_begins_10 : decode cX9_begins 10 = .ok (.aload_n 0, 1) := by decide +kernel
theorem dX9_begins_11 : decode cX9_begins 11 = .ok (.getfield 7, 3) := by decide +kernel
theorem dX9_begins_14 : decode cX9_begins 14 = .ok (.bipush 10, 2) := by decide +kernel
theorem dX9_begins_16 : decode cX9_begins 16 = .ok (.aload_n 0, 1) := by decide +kernel
theorem dX9_begins_17 : decode cX9_begins 17 = .ok (.getfield 7, 3) := by decide +kernel
theorem dX9_begins_20 : decode cX9_begins 20 = .ok (.bipush 9, 2) := by decide +kernel
theorem dX9_begins_22 : decode cX9_begins 22 = .ok (.iaload, 1) := by decide +kernel
theorem dX9_begins_23 : decode cX9_begins 23 = .ok (.aload_n 0, 1) := by decide +kernel
theorem dX9_begins_24 : decode cX9_begins 24 = .ok (.getfield 7, 3) := by decide +kernel
theorem dX9_begins_27 : decode cX9_begins 27 = .ok (.iconst 5, 1) := by decide +kernel
theorem dX9_begins_28 : decode cX9_begins 28 = .ok (.iaload, 1) := by decide +kernel
theorem dX9_begins_29 : decode cX9_begins 29 = .ok (.iadd, 1) := by decide +kernel
theorem dX9_begins_30 : decode cX9_begins 30 = .ok (.iastore, 1) := by decide +kernel
theorem dX9_begins_31 : decode cX9_begins 31 = .ok (.return_, 1) := by decide +kernel
theorem dX9_sees_0 : decode cX9_sees 0 = .ok (.aload_n 0, 1) := by decide +kernel
theorem dX9_sees_1 : decode cX9_sees 1 = .ok (.getfield 7, 3) := by decide +kernel
theorem dX9_sees_4 : decode cX9_sees 4 = .ok (.bipush 24, 2) := by decide +kernel
theorem dX9_sees_6 : decode cX9_sees 6 = .ok (.iaload, 1) := by decide +kernel
theorem dX9_sees_7 : decode cX9_sees 7 = .ok (.bipush 16, 2) := by decide +kernel
theorem dX9_sees_9 : decode cX9_sees 9 = .ok (.if_icmp .ne 43, 3) := by decide +kernel
theorem dX9_sees_12 : decode cX9_sees 12 = .ok (.sipush 2372, 3) := by decide +kernel
theorem dX9_sees_15 : decode cX9_sees 15 = .ok (.istore_n 2, 1) := by decide +kernel
theorem dX9_sees_16 : decode cX9_sees 16 = .ok (.iload_n 2, 1) := by decide +kernel
theorem dX9_sees_17 : decode cX9_sees 17 = .ok (.sipush 2387, 3) := by decide +kernel
theorem dX9_sees_20 : decode cX9_sees 20 = .ok (.if_icmp .ge 23, 3) := by decide +kernel
theorem dX9_sees_23 : decode cX9_sees 23 = .ok (.aload_n 0, 1) := by decide +kernel
theorem dX9_sees_24 : decode cX9_sees 24 = .ok (.getfield 7, 3) := by decide +kernel
theorem dX9_sees_27 : decode cX9_sees 27 = .ok (.iload_n 2, 1) := by decide +kernel
theorem dX9_sees_28 : decode cX9_sees 28 = .ok (.aload_n 0, 1) := by decide +kernel
theorem dX9_sees_29 : decode cX9_sees 29 = .ok (.getfield 7, 3) := by decide +kernel
theorem dX9_sees_32 : decode cX9_sees 32 = .ok (.iload_n 2, 1) := by decide +kernel
theorem dX9_sees_33 : decode cX9_sees 33 = .ok (.iconst 1, 1) := by decide +kernel
theorem dX9_sees_34 : decode cX9_sees 34 = .ok (.iadd, 1) := by decide +kernel
theorem dX9_sees_35 : decode cX9_sees 35 = .ok (.iaload, 1) := by decide +kernel
theorem dX9_sees_36 : decode cX9_sees 36 = .ok (.iastore, 1) := by decide +kernel
theorem dX9_sees_37 : decode cX9_sees 37 = .ok (.iinc 2 1, 3) := by decide +kernel
theorem dX9_sees_40 : decode cX9_sees 40 = .ok (.goto (-24), 3) := by decide +kernel
theorem dX9_sees_43 : decode cX9_sees 43 = .ok (.aload_n 0, 1) := by decide +kernel
theorem dX9_sees_44 : decode cX9_sees 44 = .ok (.getfield 7, 3) := by decide +kernel
theorem dX9_sees_47 : decode cX9_sees 47 = .ok (.bipush 24, 2) := by decide +kernel
theorem dX9_sees_49 : decode cX9_sees 49 = .ok (.bipush 15, 2) := by decide +kernel
theorem dX9_sees_51 : decode cX9_sees 51 = .ok (.iastore, 1) := by decide +kernel
theorem dX9_sees_52 : decode cX9_sees 52 = .ok (.aload_n 0, 1) := by decide +kernel
theorem dX9_sees_53 : decode cX9_sees 53 = .ok (.getfield 7, 3) := by decide +kernel
theorem dX9_sees_56 : decode cX9_sees 56 = .ok (.sipush 2372, 3) := by decide +kernel
theorem dX9_sees_59 : decode cX9_sees 59 = .ok (.aload_n 0, 1) := by decide +kernel
theorem dX9_sees_60 : decode cX9_sees 60 = .ok (.getfield 7, 3) := by decide +kernel
theorem dX9_sees_63 : decode cX9_sees 63 = .ok (.bipush 24, 2) := by decide +kernel
theorem dX9_sees_65 : decode cX9_sees 65 = .ok (.iaload, 1) := by decide +kernel
theorem dX9_sees_66 : decode cX9_sees 66 = .ok (.iadd, 1) := by decide +kernel
theorem dX9_sees_67 : decode cX9_sees 67 = .ok (.iload_n 1, 1) := by decide +kernel
theorem dX9_sees_68 : decode cX9_sees 68 = .ok (.iastore, 1) := by decide +kernel
theorem dX9_sees_69 : decode cX9_sees 69 = .ok (.aload_n 0, 1) := by decide +kernel
theorem dX9_sees_70 : decode cX9_sees 70 = .ok (.getfield 7, 3) := by decide +kernel
theorem dX9_sees_73 : decode cX9_sees 73 = .ok (.bipush 24, 2) := by decide +kernel
theorem dX9_sees_75 : decode cX9_sees 75 = .ok (.dup2, 1) := by decide +kernel
theorem dX9_sees_76 : decode cX9_sees 76 = .ok (.iaload, 1) := by decide +kernel
theorem dX9_sees_77 : decode cX9_sees 77 = .ok (.iconst 1, 1) := by decide +kernel
theorem dX9_sees_78 : decode cX9_sees 78 = .ok (.iadd, 1) := by decide +kernel
theorem dX9_sees_79 : decode cX9_sees 79 = .ok (.iastore, 1) := by decide +kernel
theorem dX9_sees_80 : decode cX9_sees 80 = .ok (.return_, 1) := by decide +kernel
theorem dX9_arrives_0 : decode cX9_arrives 0 = .ok (.aload_n 0, 1) := by decide +kernel
theorem dX9_arrives_1 : decode cX9_arrives 1 = .ok (.iload_n 1, 1) := by decide +kernel
theorem dX9_arrives_2 : decode cX9_arrives 2 = .ok (.invokevirtual 59, 3) := by decide +kernel
theorem dX9_arrives_5 : decode cX9_arrives 5 = .ok (.ifCond .eq 16, 3) := by decide +kernel
theorem dX9_arrives_8 : decode cX9_arrives 8 = .ok (.aload_n 0, 1) := by decide +kernel
theorem dX9_arrives_9 : decode cX9_arrives 9 = .ok (.getfield 7, 3) := by decide +kernel
theorem dX9_arrives_12 : decode cX9_arrives 12 = .ok (.bipush 18, 2) := by decide +kernel
theorem dX9_arrives_14 : decode cX9_arrives 14 = .ok (.dup2, 1) := by decide +kernel
theorem dX9_arrives_15 : decode cX9_arrives 15 = .ok (.iaload, 1) := by decide +kernel
theorem dX9_arrives_16 : decode cX9_arrives 16 = .ok (.iconst 1, 1) := by decide +kernel
theorem dX9_arrives_17 : decode cX9_arrives 17 = .ok (.iadd, 1) := by decide +kernel
theorem dX9_arrives_18 : decode cX9_arrives 18 = .ok (.iastore, 1) := by decide +kernel
theorem dX9_arrives_19 : decode cX9_arrives 19 = .ok (.iconst 0, 1) := by decide +kernel
theorem dX9_arrives_20 : decode cX9_arrives 20 = .ok (.ireturn, 1) := by decide +kernel
theorem dX9_arrives_21 : decode cX9_arrives 21 = .ok (.aload_n 0, 1) := by decide +kernel
theorem dX9_arrives_22 : decode cX9_arrives 22 = .ok (.invokevirtual 73, 3) := by decide +kernel
theorem dX9_arrives_25 : decode cX9_arrives 25 = .ok (.aload_n 0, 1) := by decide +kernel
theorem dX9_arrives_26 : decode cX9_arrives 26 = .ok (.getfield 7, 3) := by decide +kernel
theorem dX9_arrives_29 : decode cX9_arrives 29 = .ok (.bipush 30, 2) := by decide +kernel
theorem dX9_arrives_31 : decode cX9_arrives 31 = .ok (.iload_n 1, 1) := by decide +kernel
theorem dX9_arrives_32 : decode cX9_arrives 32 = .ok (.iadd, 1) := by decide +kernel
theorem dX9_arrives_33 : decode cX9_arrives 33 = .ok (.iconst 2, 1) := by decide +kernel
theorem dX9_arrives_34 : decode cX9_arrives 34 = .ok (.iastore, 1) := by decide +kernel
theorem dX9_arrives_35 : decode cX9_arrives 35 = .ok (.aload_n 0, 1) := by decide +kernel
theorem dX9_arrives_36 : decode cX9_arrives 36 = .ok (.getfield 7, 3) := by decide +kernel
theorem dX9_arrives_39 : decode cX9_arrives 39 = .ok (.bipush 17, 2) := by decide +kernel
theorem dX9_arrives_41 : decode cX9_arrives 41 = .ok (.dup2, 1) := by decide +kernel
theorem dX9_arrives_42 : decode cX9_arrives 42 = .ok (.iaload, 1) := by decide +kernel
theorem dX9_arrives_43 : decode cX9_arrives 43 = .ok (.iload_n 1, 1) := by decide +kernel
theorem dX9_arrives_44 : decode cX9_arrives 44 = .ok (.aload_n 0, 1) := by decide +kernel
theorem dX9_arrives_45 : decode cX9_arrives 45 = .ok (.getfield 7, 3) := by decide +kernel
theorem dX9_arrives_48 : decode cX9_arrives 48 = .ok (.bipush 11, 2) := by decide +kernel
theorem dX9_arrives_50 : decode cX9_arrives 50 = .ok (.iaload, 1) := by decide +kernel
theorem dX9_arrives_51 : decode cX9_arrives 51 = .ok (.if_icmp .ge 7, 3) := by decide +kernel
theorem dX9_arrives_54 : decode cX9_arrives 54 = .ok (.iconst 1, 1) := by decide +kernel
theorem dX9_arrives_55 : decode cX9_arrives 55 = .ok (.goto 4, 3) := by decide +kernel
theorem dX9_arrives_58 : decode cX9_arrives 58 = .ok (.iconst 0, 1) := by decide +kernel
theorem dX9_arrives_59 : decode cX9_arrives 59 = .ok (.iadd, 1) := by decide +kernel
theorem dX9_arrives_60 : decode cX9_arrives 60 = .ok (.iastore, 1) := by decide +kernel
theorem dX9_arrives_61 : decode cX9_arrives 61 = .ok (.aload_n 0, 1) := by decide +kernel
theorem dX9_arrives_62 : decode cX9_arrives 62 = .ok (.aload_n 0, 1) := by decide +kernel
theorem dX9_arrives_63 : decode cX9_arrives 63 = .ok (.getfield 7, 3) := by decide +kernel
theorem dX9_arrives_66 : decode cX9_arrives 66 = .ok (.bipush 9, 2) := by decide +kernel
theorem dX9_arrives_68 : decode cX9_arrives 68 = .ok (.iaload, 1) := by decide +kernel
theorem dX9_arrives_69 : decode cX9_arrives 69 = .ok (.iload_n 1, 1) := by decide +kernel
theorem dX9_arrives_70 : decode cX9_arrives 70 = .ok (.aload_n 0, 1) := by decide +kernel
theorem dX9_arrives_71 : decode cX9_arrives 71 = .ok (.getfield 7, 3) := by decide +kernel
theorem dX9_arrives_74 : decode cX9_arrives 74 = .ok (.iconst 0, 1) := by decide +kernel
theorem dX9_arrives_75 : decode cX9_arrives 75 = .ok (.iaload, 1) := by decide +kernel
theorem dX9_arrives_76 : decode cX9_arrives 76 = .ok (.imul, 1) := by decide +kernel
theorem dX9_arrives_77 : decode cX9_arrives 77 = .ok (.isub, 1) := by decide +kernel
theorem dX9_arrives_78 : decode cX9_arrives 78 = .ok (.invokevirtual 76, 3) := by decide +kernel
theorem dX9_arrives_81 : decode cX9_arrives 81 = .ok (.iconst 1, 1) := by decide +kernel
theorem dX9_arrives_82 : decode cX9_arrives 82 = .ok (.aload_n 0, 1) := by decide +kernel
theorem dX9_arrives_83 : decode cX9_arrives 83 = .ok (.iload_n 1, 1) := by decide +kernel
theorem dX9_arrives_84 : decode cX9_arrives 84 = .ok (.aload_n 0, 1) := by decide +kernel
theorem dX9_arrives_85 : decode cX9_arrives 85 = .ok (.invokevirtual 47, 3) := by decide +kernel
theorem dX9_arrives_88 : decode cX9_arrives 88 = .ok (.idiv, 1) := by decide +kernel
theorem dX9_arrives_89 : decode cX9_arrives 89 = .ok (.iconst 0, 1) := by decide +kernel
theorem dX9_arrives_90 : decode cX9_arrives 90 = .ok (.invokevirtual 80, 3) := by decide +kernel
theorem dX9_arrives_93 : decode cX9_arrives 93 = .ok (.iadd, 1) := by decide +kernel
theorem dX9_arrives_94 : decode cX9_arrives 94 = .ok (.ireturn, 1) := by decide +kernel
theorem dX9_arrivesParity_0 : decode cX9_arrivesParity 0 = .ok (.aload_n 0, 1) := by decide +kernel
theorem dX9_arrivesParity_1 : decode cX9_arrivesParity 1 = .ok (.iload_n 1, 1) := by decide +kernel
theorem dX9_arrivesParity_2 : decode cX9_arrivesParity 2 = .ok (.iload_n 2, 1) := by decide +kernel
theorem dX9_arrivesParity_3 : decode cX9_arrivesParity 3 = .ok (.iload_n 3, 1) := by decide +kernel
theorem dX9_arrivesParity_4 : decode cX9_arrivesParity 4 = .ok (.invokevirtual 67, 3) := by decide +kernel
theorem dX9_arrivesParity_7 : decode cX9_arrivesParity 7 = .ok (.istore 4, 2) := by decide +kernel
theorem dX9_arrivesParity_9 : decode cX9_arrivesParity 9 = .ok (.aload_n 0, 1) := by decide +kernel
theorem dX9_arrivesParity_10 : decode cX9_arrivesParity 10 = .ok (.getfield 7, 3) := by decide +kernel
theorem dX9_arrivesParity_13 : decode cX9_arrivesParity 13 = .ok (.iload 4, 2) := by decide +kernel
theorem dX9_arrivesParity_15 : decode cX9_arrivesParity 15 = .ok (.iaload, 1) := by decide +kernel
theorem dX9_arrivesParity_16 : decode cX9_arrivesParity 16 = .ok (.iconst 1, 1) := by decide +kernel
theorem dX9_arrivesParity_17 : decode cX9_arrivesParity 17 = .ok (.if_icmp .ne 16, 3) := by decide +kernel
theorem dX9_arrivesParity_20 : decode cX9_arrivesParity 20 = .ok (.aload_n 0, 1) := by decide +kernel
theorem dX9_arrivesParity_21 : decode cX9_arrivesParity 21 = .ok (.getfield 7, 3) := by decide +kernel
theorem dX9_arrivesParity_24 : decode cX9_arrivesParity 24 = .ok (.bipush 18, 2) := by decide +kernel
theorem dX9_arrivesParity_26 : decode cX9_arrivesParity 26 = .ok (.dup2, 1) := by decide +kernel
theorem dX9_arrivesParity_27 : decode cX9_arrivesParity 27 = .ok (.iaload, 1) := by decide +kernel
theorem dX9_arrivesParity_28 : decode cX9_arrivesParity 28 = .ok (.iconst 1, 1) := by decide +kernel
theorem dX9_arrivesParity_29 : decode cX9_arrivesParity 29 = .ok (.iadd, 1) := by decide +kernel
theorem dX9_arrivesParity_30 : decode cX9_arrivesParity 30 = .ok (.iastore, 1) := by decide +kernel
theorem dX9_arrivesParity_31 : decode cX9_arrivesParity 31 = .ok (.iconst 0, 1) := by decide +kernel
theorem dX9_arrivesParity_32 : decode cX9_arrivesParity 32 = .ok (.ireturn, 1) := by decide +kernel
theorem dX9_arrivesParity_33 : decode cX9_arrivesParity 33 = .ok (.aload_n 0, 1) := by decide +kernel
theorem dX9_arrivesParity_34 : decode cX9_arrivesParity 34 = .ok (.invokevirtual 73, 3) := by decide +kernel
theorem dX9_arrivesParity_37 : decode cX9_arrivesParity 37 = .ok (.aload_n 0, 1) := by decide +kernel
theorem dX9_arrivesParity_38 : decode cX9_arrivesParity 38 = .ok (.getfield 7, 3) := by decide +kernel
theorem dX9_arrivesParity_41 : decode cX9_arrivesParity 41 = .ok (.iload 4, 2) := by decide +kernel
theorem dX9_arrivesParity_43 : decode cX9_arrivesParity 43 = .ok (.iconst 1, 1) := by decide +kernel
theorem dX9_arrivesParity_44 : decode cX9_arrivesParity 44 = .ok (.iastore, 1) := by decide +kernel
theorem dX9_arrivesParity_45 : decode cX9_arrivesParity 45 = .ok (.aload_n 0, 1) := by decide +kernel
theorem dX9_arrivesParity_46 : decode cX9_arrivesParity 46 = .ok (.iload_n 2, 1) := by decide +kernel
theorem dX9_arrivesParity_47 : decode cX9_arrivesParity 47 = .ok (.iconst 0, 1) := by decide +kernel
theorem dX9_arrivesParity_48 : decode cX9_arrivesParity 48 = .ok (.invokevirtual 80, 3) := by decide +kernel
theorem dX9_arrivesParity_51 : decode cX9_arrivesParity 51 = .ok (.ireturn, 1) := by decide +kernel
theorem dX9_arrive_0 : decode cX9_arrive 0 = .ok (.iload_n 1, 1) := by decide +kernel
theorem dX9_arrive_1 : decode cX9_arrive 1 = .ok (.invokestatic 84, 3) := by decide +kernel
theorem dX9_arrive_4 : decode cX9_arrive 4 = .ok (.ifCond .eq 11, 3) := by decide +kernel
theorem dX9_arrive_7 : decode cX9_arrive 7 = .ok (.aload_n 0, 1) := by decide +kernel
theorem dX9_arrive_8 : decode cX9_arrive 8 = .ok (.iload_n 1, 1) := by decide +kernel
theorem dX9_arrive_9 : decode cX9_arrive 9 = .ok (.invokevirtual 87, 3) := by decide +kernel
theorem dX9_arrive_12 : decode cX9_arrive 12 = .ok (.goto 6, 3) := by decide +kernel
theorem dX9_arrive_15 : decode cX9_arrive 15 = .ok (.sipush (-1001), 3) := by decide +kernel
theorem dX9_arrive_18 : decode cX9_arrive 18 = .ok (.ireturn, 1) := by decide +kernel
theorem dX9_arriveParity_0 : decode cX9_arriveParity 0 = .ok (.aload_n 0, 1) := by decide +kernel
theorem dX9_arriveParity_1 : decode cX9_arriveParity 1 = .ok (.iload_n 1, 1) := by decide +kernel
theorem dX9_arriveParity_2 : decode cX9_arriveParity 2 = .ok (.iload_n 2, 1) := by decide +kernel
theorem dX9_arriveParity_3 : decode cX9_arriveParity 3 = .ok (.iload_n 3, 1) := by decide +kernel
theorem dX9_arriveParity_4 : decode cX9_arriveParity 4 = .ok (.invokevirtual 91, 3) := by decide +kernel
theorem dX9_arriveParity_7 : decode cX9_arriveParity 7 = .ok (.ifCond .eq 13, 3) := by decide +kernel
theorem dX9_arriveParity_10 : decode cX9_arriveParity 10 = .ok (.aload_n 0, 1) := by decide +kernel
theorem dX9_arriveParity_11 : decode cX9_arriveParity 11 = .ok (.iload_n 1, 1) := by decide +kernel
theorem dX9_arriveParity_12 : decode cX9_arriveParity 12 = .ok (.iload_n 2, 1) := by decide +kernel
theorem dX9_arriveParity_13 : decode cX9_arriveParity 13 = .ok (.iload_n 3, 1) := by decide +kernel
theorem dX9_arriveParity_14 : decode cX9_arriveParity 14 = .ok (.invokevirtual 95, 3) := by decide +kernel
theorem dX9_arriveParity_17 : decode cX9_arriveParity 17 = .ok (.goto 6, 3) := by decide +kernel
theorem dX9_arriveParity_20 : decode cX9_arriveParity 20 = .ok (.sipush (-1001), 3) := by decide +kernel
theorem dX9_arriveParity_23 : decode cX9_arriveParity 23 = .ok (.ireturn, 1) := by decide +kernel
theorem dX9_arrivesBySchedule_0 : decode cX9_arrivesBySchedule 0 = .ok (.iconst 0, 1) := by decide +kernel
theorem dX9_arrivesBySchedule_1 : decode cX9_arrivesBySchedule 1 = .ok (.istore_n 1, 1) := by decide +kernel
theorem dX9_arrivesBySchedule_2 : decode cX9_arrivesBySchedule 2 = .ok (.aload_n 0, 1) := by decide +kernel
theorem dX9_arrivesBySchedule_3 : decode cX9_arrivesBySchedule 3 = .ok (.getfield 7, 3) := by decide +kernel
theorem dX9_arrivesBySchedule_6 : decode cX9_arrivesBySchedule 6 = .ok (.bipush 25, 2) := by decide +kernel
theorem dX9_arrivesBySchedule_8 : decode cX9_arrivesBySchedule 8 = .ok (.iaload, 1) := by decide +kernel
theorem dX9_arrivesBySchedule_9 : decode cX9_arrivesBySchedule 9 = .ok (.istore_n 2, 1) := by decide +kernel
theorem dX9_arrivesBySchedule_10 : decode cX9_arrivesBySchedule 10 = .ok (.iconst 0, 1) := by decide +kernel
theorem dX9_arrivesBySchedule_11 : decode cX9_arrivesBySchedule 11 = .ok (.istore_n 3, 1) := by decide +kernel
theorem dX9_arrivesBySchedule_12 : decode cX9_arrivesBySchedule 12 = .ok (.iload_n 3, 1) := by decide +kernel
theorem dX9_arrivesBySchedule_13 : decode cX9_arrivesBySchedule 13 = .ok (.iload_n 2, 1) := by decide +kernel
theorem dX9_arrivesBySchedule_14 : decode cX9_arrivesBySchedule 14 = .ok (.if_icmp .ge 149, 3) := by decide +kernel
theorem dX9_arrivesBySchedule_17 : decode cX9_arrivesBySchedule 17 = .ok (.sipush 2388, 3) := by decide +kernel
theorem dX9_arrivesBySchedule_20 : decode cX9_arrivesBySchedule 20 = .ok (.iconst 4, 1) := by decide +kernel
theorem dX9_arrivesBySchedule_21 : decode cX9_arrivesBySchedule 21 = .ok (.iload_n 3, 1) := by decide +kernel
theorem dX9_arrivesBySchedule_22 : decode cX9_arrivesBySchedule 22 = .ok (.imul, 1) := by decide +kernel
theorem dX9_arrivesBySchedule_23 : decode cX9_arrivesBySchedule 23 = .ok (.iadd, 1) := by decide +kernel
theorem dX9_arrivesBySchedule_24 : decode cX9_arrivesBySchedule 24 = .ok (.istore 4, 2) := by decide +kernel
theorem dX9_arrivesBySchedule_26 : decode cX9_arrivesBySchedule 26 = .ok (.aload_n 0, 1) := by decide +kernel
theorem dX9_arrivesBySchedule_27 : decode cX9_arrivesBySchedule 27 = .ok (.getfield 7, 3) := by decide +kernel
theorem dX9_arrivesBySchedule_30 : decode cX9_arrivesBySchedule 30 = .ok (.iload 4, 2) := by decide +kernel
theorem dX9_arrivesBySchedule_32 : decode cX9_arrivesBySchedule 32 = .ok (.iconst 3, 1) := by decide +kernel
theorem dX9_arrivesBySchedule_33 : decode cX9_arrivesBySchedule 33 = .ok (.iadd, 1) := by decide +kernel
theorem dX9_arrivesBySchedule_34 : decode cX9_arrivesBySchedule 34 = .ok (.iaload, 1) := by decide +kernel
theorem dX9_arrivesBySchedule_35 : decode cX9_arrivesBySchedule 35 = .ok (.aload_n 0, 1) := by decide +kernel
theorem dX9_arrivesBySchedule_36 : decode cX9_arrivesBySchedule 36 = .ok (.getfield 7, 3) := by decide +kernel
theorem dX9_arrivesBySchedule_39 : decode cX9_arrivesBySchedule 39 = .ok (.bipush 9, 2) := by decide +kernel
theorem dX9_arrivesBySchedule_41 : decode cX9_arrivesBySchedule 41 = .ok (.iaload, 1) := by decide +kernel
theorem dX9_arrivesBySchedule_42 : decode cX9_arrivesBySchedule 42 = .ok (.if_icmp .ne 72, 3) := by decide +kernel
theorem dX9_arrivesBySchedule_45 : decode cX9_arrivesBySchedule 45 = .ok (.aload_n 0, 1) := by decide +kernel
theorem dX9_arrivesBySchedule_46 : decode cX9_arrivesBySchedule 46 = .ok (.getfield 7, 3) := by decide +kernel
theorem dX9_arrivesBySchedule_49 : decode cX9_arrivesBySchedule 49 = .ok (.iload 4, 2) := by decide +kernel
theorem dX9_arrivesBySchedule_51 : decode cX9_arrivesBySchedule 51 = .ok (.iaload, 1) := by decide +kernel
theorem dX9_arrivesBySchedule_52 : decode cX9_arrivesBySchedule 52 = .ok (.ifCond .ne 19, 3) := by decide +kernel
theorem dX9_arrivesBySchedule_55 : decode cX9_arrivesBySchedule 55 = .ok (.aload_n 0, 1) := by decide +kernel
theorem dX9_arrivesBySchedule_56 : decode cX9_arrivesBySchedule 56 = .ok (.aload_n 0, 1) := by decide +kernel
theorem dX9_arrivesBySchedule_57 : decode cX9_arrivesBySchedule 57 = .ok (.getfield 7, 3) := by decide +kernel
theorem dX9_arrivesBySchedule_60 : decode cX9_arrivesBySchedule 60 = .ok (.iload 4, 2) := by decide +kernel
theorem dX9_arrivesBySchedule_62 : decode cX9_arrivesBySchedule 62 = .ok (.iconst 1, 1) := by decide +kernel
theorem dX9_arrivesBySchedule_63 : decode cX9_arrivesBySchedule 63 = .ok (.iadd, 1) := by decide +kernel
theorem dX9_arrivesBySchedule_64 : decode cX9_arrivesBySchedule 64 = .ok (.iaload, 1) := by decide +kernel
theorem dX9_arrivesBySchedule_65 : decode cX9_arrivesBySchedule 65 = .ok (.invokevirtual 87, 3) := by decide +kernel
theorem dX9_arrivesBySchedule_68 : decode cX9_arrivesBySchedule 68 = .ok (.goto 41, 3) := by decide +kernel
theorem dX9_arrivesBySchedule_71 : decode cX9_arrivesBySchedule 71 = .ok (.aload_n 0, 1) := by decide +kernel
theorem dX9_arrivesBySchedule_72 : decode cX9_arrivesBySchedule 72 = .ok (.aload_n 0, 1) := by decide +kernel
theorem dX9_arrivesBySchedule_73 : decode cX9_arrivesBySchedule 73 = .ok (.getfield 7, 3) := by decide +kernel
theorem dX9_arrivesBySchedule_76 : decode cX9_arrivesBySchedule 76 = .ok (.iload 4, 2) := by decide +kernel
theorem dX9_arrivesBySchedule_78 : decode cX9_arrivesBySchedule 78 = .ok (.iaload, 1) := by decide +kernel
theorem dX9_arrivesBySchedule_79 : decode cX9_arrivesBySchedule 79 = .ok (.iconst 1, 1) := by decide +kernel
theorem dX9_arrivesBySchedule_80 : decode cX9_arrivesBySchedule 80 = .ok (.if_icmp .ne 7, 3) := by decide +kernel
theorem dX9_arrivesBySchedule_83 : decode cX9_arrivesBySchedule 83 = .ok (.iconst 1, 1) := by decide +kernel
theorem dX9_arrivesBySchedule_84 : decode cX9_arrivesBySchedule 84 = .ok (.goto 4, 3) := by decide +kernel
theorem dX9_arrivesBySchedule_87 : decode cX9_arrivesBySchedule 87 = .ok (.iconst 0, 1) := by decide +kernel
theorem dX9_arrivesBySchedule_88 : decode cX9_arrivesBySchedule 88 = .ok (.aload_n 0, 1) := by decide +kernel
theorem dX9_arrivesBySchedule_89 : decode cX9_arrivesBySchedule 89 = .ok (.getfield 7, 3) := by decide +kernel
theorem dX9_arrivesBySchedule_92 : decode cX9_arrivesBySchedule 92 = .ok (.iload 4, 2) := by decide +kernel
theorem dX9_arrivesBySchedule_94 : decode cX9_arrivesBySchedule 94 = .ok (.iconst 1, 1) := by decide +kernel
theorem dX9_arrivesBySchedule_95 : decode cX9_arrivesBySchedule 95 = .ok (.iadd, 1) := by decide +kernel
theorem dX9_arrivesBySchedule_96 : decode cX9_arrivesBySchedule 96 = .ok (.iaload, 1) := by decide +kernel
theorem dX9_arrivesBySchedule_97 : decode cX9_arrivesBySchedule 97 = .ok (.aload_n 0, 1) := by decide +kernel
theorem dX9_arrivesBySchedule_98 : decode cX9_arrivesBySchedule 98 = .ok (.getfield 7, 3) := by decide +kernel
theorem dX9_arrivesBySchedule_101 : decode cX9_arrivesBySchedule 101 = .ok (.iload 4, 2) := by decide +kernel
theorem dX9_arrivesBySchedule_103 : decode cX9_arrivesBySchedule 103 = .ok (.iconst 2, 1) := by decide +kernel
theorem dX9_arrivesBySchedule_104 : decode cX9_arrivesBySchedule 104 = .ok (.iadd, 1) := by decide +kernel
theorem dX9_arrivesBySchedule_105 : decode cX9_arrivesBySchedule 105 = .ok (.iaload, 1) := by decide +kernel
theorem dX9_arrivesBySchedule_106 : decode cX9_arrivesBySchedule 106 = .ok (.invokevirtual 95, 3) := by decide +kernel
theorem dX9_arrivesBySchedule_109 : decode cX9_arrivesBySchedule 109 = .ok (.istore 5, 2) := by decide +kernel
theorem dX9_arrivesBySchedule_111 : decode cX9_arrivesBySchedule 111 = .ok (.goto 46, 3) := by decide +kernel
theorem dX9_arrivesBySchedule_114 : decode cX9_arrivesBySchedule 114 = .ok (.iconst 0, 1) := by decide +kernel
theorem dX9_arrivesBySchedule_115 : decode cX9_arrivesBySchedule 115 = .ok (.istore 5, 2) := by decide +kernel
theorem dX9_arrivesBySchedule_117 : decode cX9_arrivesBySchedule 117 = .ok (.iload 5, 2) := by decide +kernel
theorem dX9_arrivesBySchedule_119 : decode cX9_arrivesBySchedule 119 = .ok (.iconst 4, 1) := by decide +kernel
theorem dX9_arrivesBySchedule_120 : decode cX9_arrivesBySchedule 120 = .ok (.if_icmp .ge 34, 3) := by decide +kernel
theorem dX9_arrivesBySchedule_123 : decode cX9_arrivesBySchedule 123 = .ok (.aload_n 0, 1) := by decide +kernel
theorem dX9_arrivesBySchedule_124 : decode cX9_arrivesBySchedule 124 = .ok (.getfield 7, 3) := by decide +kernel
theorem dX9_arrivesBySchedule_127 : decode cX9_arrivesBySchedule 127 = .ok (.sipush 2388, 3) := by decide +kernel
theorem dX9_arrivesBySchedule_130 : decode cX9_arrivesBySchedule 130 = .ok (.iconst 4, 1) := by decide +kernel
theorem dX9_arrivesBySchedule_131 : decode cX9_arrivesBySchedule 131 = .ok (.iload_n 1, 1) := by decide +kernel
theorem dX9_arrivesBySchedule_132 : decode cX9_arrivesBySchedule 132 = .ok (.imul, 1) := by decide +kernel
theorem dX9_arrivesBySchedule_133 : decode cX9_arrivesBySchedule 133 = .ok (.iadd, 1) := by decide +kernel
theorem dX9_arrivesBySchedule_134 : decode cX9_arrivesBySchedule 134 = .ok (.iload 5, 2) := by decide +kernel
theorem dX9_arrivesBySchedule_136 : decode cX9_arrivesBySchedule 136 = .ok (.iadd, 1) := by decide +kernel
theorem dX9_arrivesBySchedule_137 : decode cX9_arrivesBySchedule 137 = .ok (.aload_n 0, 1) := by decide +kernel
theorem dX9_arrivesBySchedule_138 : decode cX9_arrivesBySchedule 138 = .ok (.getfield 7, 3) := by decide +kernel
theorem dX9_arrivesBySchedule_141 : decode cX9_arrivesBySchedule 141 = .ok (.iload 4, 2) := by decide +kernel
theorem dX9_arrivesBySchedule_143 : decode cX9_arrivesBySchedule 143 = .ok (.iload 5, 2) := by decide +kernel
theorem dX9_arrivesBySchedule_145 : decode cX9_arrivesBySchedule 145 = .ok (.iadd, 1) := by decide +kernel
theorem dX9_arrivesBySchedule_146 : decode cX9_arrivesBySchedule 146 = .ok (.iaload, 1) := by decide +kernel
theorem dX9_arrivesBySchedule_147 : decode cX9_arrivesBySchedule 147 = .ok (.iastore, 1) := by decide +kernel
theorem dX9_arrivesBySchedule_148 : decode cX9_arrivesBySchedule 148 = .ok (.iinc 5 1, 3) := by decide +kernel
theorem dX9_arrivesBySchedule_151 : decode cX9_arrivesBySchedule 151 = .ok (.goto (-34), 3) := by decide +kernel
theorem dX9_arrivesBySchedule_154 : decode cX9_arrivesBySchedule 154 = .ok (.iinc 1 1, 3) := by decide +kernel
theorem dX9_arrivesBySchedule_157 : decode cX9_arrivesBySchedule 157 = .ok (.iinc 3 1, 3) := by decide +kernel
theorem dX9_arrivesBySchedule_160 : decode cX9_arrivesBySchedule 160 = .ok (.goto (-148), 3) := by decide +kernel
theorem dX9_arrivesBySchedule_163 : decode cX9_arrivesBySchedule 163 = .ok (.aload_n 0, 1) := by decide +kernel
theorem dX9_arrivesBySchedule_164 : decode cX9_arrivesBySchedule 164 = .ok (.getfield 7, 3) := by decide +kernel
theorem dX9_arrivesBySchedule_167 : decode cX9_arrivesBySchedule 167 = .ok (.bipush 25, 2) := by decide +kernel
theorem dX9_arrivesBySchedule_169 : decode cX9_arrivesBySchedule 169 = .ok (.iload_n 1, 1) := by decide +kernel
theorem dX9_arrivesBySchedule_170 : decode cX9_arrivesBySchedule 170 = .ok (.iastore, 1) := by decide +kernel
theorem dX9_arrivesBySchedule_171 : decode cX9_arrivesBySchedule 171 = .ok (.return_, 1) := by decide +kernel
theorem dX9_sorts_0 : decode cX9_sorts 0 = .ok (.iconst 0, 1) := by decide +kernel
theorem dX9_sorts_1 : decode cX9_sorts 1 = .ok (.istore_n 1, 1) := by decide +kernel
theorem dX9_sorts_2 : decode cX9_sorts 2 = .ok (.iload_n 1, 1) := by decide +kernel
theorem dX9_sorts_3 : decode cX9_sorts 3 = .ok (.aload_n 0, 1) := by decide +kernel
theorem dX9_sorts_4 : decode cX9_sorts 4 = .ok (.getfield 7, 3) := by decide +kernel
theorem dX9_sorts_7 : decode cX9_sorts 7 = .ok (.bipush 24, 2) := by decide +kernel
theorem dX9_sorts_9 : decode cX9_sorts 9 = .ok (.iaload, 1) := by decide +kernel
theorem dX9_sorts_10 : decode cX9_sorts 10 = .ok (.if_icmp .ge 72, 3) := by decide +kernel
theorem dX9_sorts_13 : decode cX9_sorts 13 = .ok (.iload_n 1, 1) := by decide +kernel
theorem dX9_sorts_14 : decode cX9_sorts 14 = .ok (.istore_n 2, 1) := by decide +kernel
theorem dX9_sorts_15 : decode cX9_sorts 15 = .ok (.iload_n 2, 1) := by decide +kernel
theorem dX9_sorts_16 : decode cX9_sorts 16 = .ok (.ifCond .le 44, 3) := by decide +kernel
theorem dX9_sorts_19 : decode cX9_sorts 19 = .ok (.aload_n 0, 1) := by decide +kernel
theorem dX9_sorts_20 : decode cX9_sorts 20 = .ok (.getfield 26, 3) := by decide +kernel
theorem dX9_sorts_23 : decode cX9_sorts 23 = .ok (.iload_n 2, 1) := by decide +kernel
theorem dX9_sorts_24 : decode cX9_sorts 24 = .ok (.iconst 1, 1) := by decide +kernel
theorem dX9_sorts_25 : decode cX9_sorts 25 = .ok (.isub, 1) := by decide +kernel
theorem dX9_sorts_26 : decode cX9_sorts 26 = .ok (.iaload, 1) := by decide +kernel
theorem dX9_sorts_27 : decode cX9_sorts 27 = .ok (.aload_n 0, 1) := by decide +kernel
theorem dX9_sorts_28 : decode cX9_sorts 28 = .ok (.getfield 7, 3) := by decide +kernel
theorem dX9_sorts_31 : decode cX9_sorts 31 = .ok (.sipush 2372, 3) := by decide +kernel
theorem dX9_sorts_34 : decode cX9_sorts 34 = .ok (.iload_n 1, 1) := by decide +kernel
theorem dX9_sorts_35 : decode cX9_sorts 35 = .ok (.iadd, 1) := by decide +kernel
theorem dX9_sorts_36 : decode cX9_sorts 36 = .ok (.iaload, 1) := by decide +kernel
theorem dX9_sorts_37 : decode cX9_sorts 37 = .ok (.if_icmp .le 23, 3) := by decide +kernel
theorem dX9_sorts_40 : decode cX9_sorts 40 = .ok (.aload_n 0, 1) := by decide +kernel
theorem dX9_sorts_41 : decode cX9_sorts 41 = .ok (.getfield 26, 3) := by decide +kernel
theorem dX9_sorts_44 : decode cX9_sorts 44 = .ok (.iload_n 2, 1) := by decide +kernel
theorem dX9_sorts_45 : decode cX9_sorts 45 = .ok (.aload_n 0, 1) := by decide +kernel
theorem dX9_sorts_46 : decode cX9_sorts 46 = .ok (.getfield 26, 3) := by decide +kernel
theorem dX9_sorts_49 : decode cX9_sorts 49 = .ok (.iload_n 2, 1) := by decide +kernel
theorem dX9_sorts_50 : decode cX9_sorts 50 = .ok (.iconst 1, 1) := by decide +kernel
theorem dX9_sorts_51 : decode cX9_sorts 51 = .ok (.isub, 1) := by decide +kernel
theorem dX9_sorts_52 : decode cX9_sorts 52 = .ok (.iaload, 1) := by decide +kernel
theorem dX9_sorts_53 : decode cX9_sorts 53 = .ok (.iastore, 1) := by decide +kernel
theorem dX9_sorts_54 : decode cX9_sorts 54 = .ok (.iinc 2 (-1), 3) := by decide +kernel
theorem dX9_sorts_57 : decode cX9_sorts 57 = .ok (.goto (-42), 3) := by decide +kernel
theorem dX9_sorts_60 : decode cX9_sorts 60 = .ok (.aload_n 0, 1) := by decide +kernel
theorem dX9_sorts_61 : decode cX9_sorts 61 = .ok (.getfield 26, 3) := by decide +kernel
theorem dX9_sorts_64 : decode cX9_sorts 64 = .ok (.iload_n 2, 1) := by decide +kernel
theorem dX9_sorts_65 : decode cX9_sorts 65 = .ok (.aload_n 0, 1) := by decide +kernel
theorem dX9_sorts_66 : decode cX9_sorts 66 = .ok (.getfield 7, 3) := by decide +kernel
theorem dX9_sorts_69 : decode cX9_sorts 69 = .ok (.sipush 2372, 3) := by decide +kernel
theorem dX9_sorts_72 : decode cX9_sorts 72 = .ok (.iload_n 1, 1) := by decide +kernel
theorem dX9_sorts_73 : decode cX9_sorts 73 = .ok (.iadd, 1) := by decide +kernel
theorem dX9_sorts_74 : decode cX9_sorts 74 = .ok (.iaload, 1) := by decide +kernel
theorem dX9_sorts_75 : decode cX9_sorts 75 = .ok (.iastore, 1) := by decide +kernel
theorem dX9_sorts_76 : decode cX9_sorts 76 = .ok (.iinc 1 1, 3) := by decide +kernel
theorem dX9_sorts_79 : decode cX9_sorts 79 = .ok (.goto (-77), 3) := by decide +kernel
theorem dX9_sorts_82 : decode cX9_sorts 82 = .ok (.return_, 1) := by decide +kernel
theorem dX9_targetNow_0 : decode cX9_targetNow 0 = .ok (.aload_n 0, 1) := by decide +kernel
theorem dX9_targetNow_1 : decode cX9_targetNow 1 = .ok (.getfield 7, 3) := by decide +kernel
theorem dX9_targetNow_4 : decode cX9_targetNow 4 = .ok (.bipush 24, 2) := by decide +kernel
theorem dX9_targetNow_6 : decode cX9_targetNow 6 = .ok (.iaload, 1) := by decide +kernel
theorem dX9_targetNow_7 : decode cX9_targetNow 7 = .ok (.istore_n 1, 1) := by decide +kernel
theorem dX9_targetNow_8 : decode cX9_targetNow 8 = .ok (.iload_n 1, 1) := by decide +kernel
theorem dX9_targetNow_9 : decode cX9_targetNow 9 = .ok (.ifCond .ne 11, 3) := by decide +kernel
theorem dX9_targetNow_12 : decode cX9_targetNow 12 = .ok (.aload_n 0, 1) := by decide +kernel
theorem dX9_targetNow_13 : decode cX9_targetNow 13 = .ok (.getfield 7, 3) := by decide +kernel
theorem dX9_targetNow_16 : decode cX9_targetNow 16 = .ok (.bipush 7, 2) := by decide +kernel
theorem dX9_targetNow_18 : decode cX9_targetNow 18 = .ok (.iaload, 1) := by decide +kernel
theorem dX9_targetNow_19 : decode cX9_targetNow 19 = .ok (.ireturn, 1) := by decide +kernel
theorem dX9_targetNow_20 : decode cX9_targetNow 20 = .ok (.aload_n 0, 1) := by decide +kernel
theorem dX9_targetNow_21 : decode cX9_targetNow 21 = .ok (.invokevirtual 98, 3) := by decide +kernel
theorem dX9_targetNow_24 : decode cX9_targetNow 24 = .ok (.aload_n 0, 1) := by decide +kernel
theorem dX9_targetNow_25 : decode cX9_targetNow 25 = .ok (.getfield 7, 3) := by decide +kernel
theorem dX9_targetNow_28 : decode cX9_targetNow 28 = .ok (.bipush 6, 2) := by decide +kernel
theorem dX9_targetNow_30 : decode cX9_targetNow 30 = .ok (.iaload, 1) := by decide +kernel
theorem dX9_targetNow_31 : decode cX9_targetNow 31 = .ok (.iload_n 1, 1) := by decide +kernel
theorem dX9_targetNow_32 : decode cX9_targetNow 32 = .ok (.imul, 1) := by decide +kernel
theorem dX9_targetNow_33 : decode cX9_targetNow 33 = .ok (.bipush 99, 2) := by decide +kernel
theorem dX9_targetNow_35 : decode cX9_targetNow 35 = .ok (.iadd, 1) := by decide +kernel
theorem dX9_targetNow_36 : decode cX9_targetNow 36 = .ok (.bipush 100, 2) := by decide +kernel
theorem dX9_targetNow_38 : decode cX9_targetNow 38 = .ok (.idiv, 1) := by decide +kernel
theorem dX9_targetNow_39 : decode cX9_targetNow 39 = .ok (.istore_n 2, 1) := by decide +kernel
theorem dX9_targetNow_40 : decode cX9_targetNow 40 = .ok (.aload_n 0, 1) := by decide +kernel
theorem dX9_targetNow_41 : decode cX9_targetNow 41 = .ok (.getfield 26, 3) := by decide +kernel
theorem dX9_targetNow_44 : decode cX9_targetNow 44 = .ok (.iload_n 2, 1) := by decide +kernel
theorem dX9_targetNow_45 : decode cX9_targetNow 45 = .ok (.iconst 1, 1) := by decide +kernel
theorem dX9_targetNow_46 : decode cX9_targetNow 46 = .ok (.isub, 1) := by decide +kernel
theorem dX9_targetNow_47 : decode cX9_targetNow 47 = .ok (.iaload, 1) := by decide +kernel
theorem dX9_targetNow_48 : decode cX9_targetNow 48 = .ok (.aload_n 0, 1) := by decide +kernel
theorem dX9_targetNow_49 : decode cX9_targetNow 49 = .ok (.getfield 26, 3) := by decide +kernel
theorem dX9_targetNow_52 : decode cX9_targetNow 52 = .ok (.iconst 0, 1) := by decide +kernel
theorem dX9_targetNow_53 : decode cX9_targetNow 53 = .ok (.iaload, 1) := by decide +kernel
theorem dX9_targetNow_54 : decode cX9_targetNow 54 = .ok (.isub, 1) := by decide +kernel
theorem dX9_targetNow_55 : decode cX9_targetNow 55 = .ok (.aload_n 0, 1) := by decide +kernel
theorem dX9_targetNow_56 : decode cX9_targetNow 56 = .ok (.getfield 7, 3) := by decide +kernel
theorem dX9_targetNow_59 : decode cX9_targetNow 59 = .ok (.bipush 7, 2) := by decide +kernel
theorem dX9_targetNow_61 : decode cX9_targetNow 61 = .ok (.iaload, 1) := by decide +kernel
theorem dX9_targetNow_62 : decode cX9_targetNow 62 = .ok (.iadd, 1) := by decide +kernel
theorem dX9_targetNow_63 : decode cX9_targetNow 63 = .ok (.ireturn, 1) := by decide +kernel
theorem dX9_levelFrom_0 : decode cX9_levelFrom 0 = .ok (.iload_n 1, 1) := by decide +kernel
theorem dX9_levelFrom_1 : decode cX9_levelFrom 1 = .ok (.istore_n 2, 1) := by decide +kernel
theorem dX9_levelFrom_2 : decode cX9_levelFrom 2 = .ok (.iload_n 2, 1) := by decide +kernel
theorem dX9_levelFrom_3 : decode cX9_levelFrom 3 = .ok (.sipush 999, 3) := by decide +kernel
theorem dX9_levelFrom_6 : decode cX9_levelFrom 6 = .ok (.if_icmp .gt 17, 3) := by decide +kernel
theorem dX9_levelFrom_9 : decode cX9_levelFrom 9 = .ok (.aload_n 0, 1) := by decide +kernel
theorem dX9_levelFrom_10 : decode cX9_levelFrom 10 = .ok (.iload_n 2, 1) := by decide +kernel
theorem dX9_levelFrom_11 : decode cX9_levelFrom 11 = .ok (.invokevirtual 59, 3) := by decide +kernel
theorem dX9_levelFrom_14 : decode cX9_levelFrom 14 = .ok (.ifCond .eq 9, 3) := by decide +kernel
theorem dX9_levelFrom_17 : decode cX9_levelFrom 17 = .ok (.iinc 2 1, 3) := by decide +kernel
theorem dX9_levelFrom_20 : decode cX9_levelFrom 20 = .ok (.goto (-18), 3) := by decide +kernel
theorem dX9_levelFrom_23 : decode cX9_levelFrom 23 = .ok (.aload_n 0, 1) := by decide +kernel
theorem dX9_levelFrom_24 : decode cX9_levelFrom 24 = .ok (.getfield 7, 3) := by decide +kernel
theorem dX9_levelFrom_27 : decode cX9_levelFrom 27 = .ok (.iconst 0, 1) := by decide +kernel
theorem dX9_levelFrom_28 : decode cX9_levelFrom 28 = .ok (.iaload, 1) := by decide +kernel
theorem dX9_levelFrom_29 : decode cX9_levelFrom 29 = .ok (.iload_n 2, 1) := by decide +kernel
theorem dX9_levelFrom_30 : decode cX9_levelFrom 30 = .ok (.iload_n 1, 1) := by decide +kernel
theorem dX9_levelFrom_31 : decode cX9_levelFrom 31 = .ok (.if_icmp .le 9, 3) := by decide +kernel
theorem dX9_levelFrom_34 : decode cX9_levelFrom 34 = .ok (.iload_n 2, 1) := by decide +kernel
theorem dX9_levelFrom_35 : decode cX9_levelFrom 35 = .ok (.iload_n 1, 1) := by decide +kernel
theorem dX9_levelFrom_36 : decode cX9_levelFrom 36 = .ok (.isub, 1) := by decide +kernel
theorem dX9_levelFrom_37 : decode cX9_levelFrom 37 = .ok (.goto 4, 3) := by decide +kernel
theorem dX9_levelFrom_40 : decode cX9_levelFrom 40 = .ok (.iconst 0, 1) := by decide +kernel
theorem dX9_levelFrom_41 : decode cX9_levelFrom 41 = .ok (.imul, 1) := by decide +kernel
theorem dX9_levelFrom_42 : decode cX9_levelFrom 42 = .ok (.ireturn, 1) := by decide +kernel
theorem dX9_mixed_0 : decode cX9_mixed 0 = .ok (.iload_n 0, 1) := by decide +kernel
theorem dX9_mixed_1 : decode cX9_mixed 1 = .ok (.iload_n 3, 1) := by decide +kernel
theorem dX9_mixed_2 : decode cX9_mixed 2 = .ok (.iload_n 2, 1) := by decide +kernel
theorem dX9_mixed_3 : decode cX9_mixed 3 = .ok (.isub, 1) := by decide +kernel
theorem dX9_mixed_4 : decode cX9_mixed 4 = .ok (.imul, 1) := by decide +kernel
theorem dX9_mixed_5 : decode cX9_mixed 5 = .ok (.iload_n 1, 1) := by decide +kernel
theorem dX9_mixed_6 : decode cX9_mixed 6 = .ok (.iload_n 2, 1) := by decide +kernel
theorem dX9_mixed_7 : decode cX9_mixed 7 = .ok (.imul, 1) := by decide +kernel
theorem dX9_mixed_8 : decode cX9_mixed 8 = .ok (.iadd, 1) := by decide +kernel
theorem dX9_mixed_9 : decode cX9_mixed 9 = .ok (.iload_n 3, 1) := by decide +kernel
theorem dX9_mixed_10 : decode cX9_mixed 10 = .ok (.idiv, 1) := by decide +kernel
theorem dX9_mixed_11 : decode cX9_mixed 11 = .ok (.ireturn, 1) := by decide +kernel
theorem dX9_gives_0 : decode cX9_gives 0 = .ok (.aload_n 0, 1) := by decide +kernel
theorem dX9_gives_1 : decode cX9_gives 1 = .ok (.getfield 7, 3) := by decide +kernel
theorem dX9_gives_4 : decode cX9_gives 4 = .ok (.sipush 2342, 3) := by decide +kernel
theorem dX9_gives_7 : decode cX9_gives 7 = .ok (.aload_n 0, 1) := by decide +kernel
theorem dX9_gives_8 : decode cX9_gives 8 = .ok (.getfield 7, 3) := by decide +kernel
theorem dX9_gives_11 : decode cX9_gives 11 = .ok (.bipush 22, 2) := by decide +kernel
theorem dX9_gives_13 : decode cX9_gives 13 = .ok (.iaload, 1) := by decide +kernel
theorem dX9_gives_14 : decode cX9_gives 14 = .ok (.iadd, 1) := by decide +kernel
theorem dX9_gives_15 : decode cX9_gives 15 = .ok (.iload_n 1, 1) := by decide +kernel
theorem dX9_gives_16 : decode cX9_gives 16 = .ok (.iastore, 1) := by decide +kernel
theorem dX9_gives_17 : decode cX9_gives 17 = .ok (.aload_n 0, 1) := by decide +kernel
theorem dX9_gives_18 : decode cX9_gives 18 = .ok (.getfield 7, 3) := by decide +kernel
theorem dX9_gives_21 : decode cX9_gives 21 = .ok (.bipush 22, 2) := by decide +kernel
theorem dX9_gives_23 : decode cX9_gives 23 = .ok (.dup2, 1) := by decide +kernel
theorem dX9_gives_24 : decode cX9_gives 24 = .ok (.iaload, 1) := by decide +kernel
theorem dX9_gives_25 : decode cX9_gives 25 = .ok (.iconst 1, 1) := by decide +kernel
theorem dX9_gives_26 : decode cX9_gives 26 = .ok (.iadd, 1) := by decide +kernel
theorem dX9_gives_27 : decode cX9_gives 27 = .ok (.iastore, 1) := by decide +kernel
theorem dX9_gives_28 : decode cX9_gives 28 = .ok (.return_, 1) := by decide +kernel
theorem dX9_lagOfFrame_0 : decode cX9_lagOfFrame 0 = .ok (.iconst 2, 1) := by decide +kernel
theorem dX9_lagOfFrame_1 : decode cX9_lagOfFrame 1 = .ok (.istore_n 1, 1) := by decide +kernel
theorem dX9_lagOfFrame_2 : decode cX9_lagOfFrame 2 = .ok (.iconst (-1), 1) := by decide +kernel
theorem dX9_lagOfFrame_3 : decode cX9_lagOfFrame 3 = .ok (.istore_n 2, 1) := by decide +kernel
theorem dX9_lagOfFrame_4 : decode cX9_lagOfFrame 4 = .ok (.iconst 2, 1) := by decide +kernel
theorem dX9_lagOfFrame_5 : decode cX9_lagOfFrame 5 = .ok (.istore_n 3, 1) := by decide +kernel
theorem dX9_lagOfFrame_6 : decode cX9_lagOfFrame 6 = .ok (.iload_n 3, 1) := by decide +kernel
theorem dX9_lagOfFrame_7 : decode cX9_lagOfFrame 7 = .ok (.aload_n 0, 1) := by decide +kernel
theorem dX9_lagOfFrame_8 : decode cX9_lagOfFrame 8 = .ok (.getfield 7, 3) := by decide +kernel
theorem dX9_lagOfFrame_11 : decode cX9_lagOfFrame 11 = .ok (.iconst 0, 1) := by decide +kernel
theorem dX9_lagOfFrame_12 : decode cX9_lagOfFrame 12 = .ok (.iaload, 1) := by decide +kernel
theorem dX9_lagOfFrame_13 : decode cX9_lagOfFrame 13 = .ok (.iconst 2, 1) := by decide +kernel
theorem dX9_lagOfFrame_14 : decode cX9_lagOfFrame 14 = .ok (.idiv, 1) := by decide +kernel
theorem dX9_lagOfFrame_15 : decode cX9_lagOfFrame 15 = .ok (.if_icmp .gt 71, 3) := by decide +kernel
theorem dX9_lagOfFrame_18 : decode cX9_lagOfFrame 18 = .ok (.iconst 0, 1) := by decide +kernel
theorem dX9_lagOfFrame_19 : decode cX9_lagOfFrame 19 = .ok (.istore 4, 2) := by decide +kernel
theorem dX9_lagOfFrame_21 : decode cX9_lagOfFrame 21 = .ok (.iconst 0, 1) := by decide +kernel
theorem dX9_lagOfFrame_22 : decode cX9_lagOfFrame 22 = .ok (.istore 5, 2) := by decide +kernel
theorem dX9_lagOfFrame_24 : decode cX9_lagOfFrame 24 = .ok (.iload 5, 2) := by decide +kernel
theorem dX9_lagOfFrame_26 : decode cX9_lagOfFrame 26 = .ok (.iload_n 3, 1) := by decide +kernel
theorem dX9_lagOfFrame_27 : decode cX9_lagOfFrame 27 = .ok (.if_icmp .ge 34, 3) := by decide +kernel
theorem dX9_lagOfFrame_30 : decode cX9_lagOfFrame 30 = .ok (.iload 4, 2) := by decide +kernel
theorem dX9_lagOfFrame_32 : decode cX9_lagOfFrame 32 = .ok (.aload_n 0, 1) := by decide +kernel
theorem dX9_lagOfFrame_33 : decode cX9_lagOfFrame 33 = .ok (.getfield 29, 3) := by decide +kernel
theorem dX9_lagOfFrame_36 : decode cX9_lagOfFrame 36 = .ok (.iload 5, 2) := by decide +kernel
theorem dX9_lagOfFrame_38 : decode cX9_lagOfFrame 38 = .ok (.iaload, 1) := by decide +kernel
theorem dX9_lagOfFrame_39 : decode cX9_lagOfFrame 39 = .ok (.aload_n 0, 1) := by decide +kernel
theorem dX9_lagOfFrame_40 : decode cX9_lagOfFrame 40 = .ok (.getfield 29, 3) := by decide +kernel
theorem dX9_lagOfFrame_43 : decode cX9_lagOfFrame 43 = .ok (.iload_n 3, 1) := by decide +kernel
theorem dX9_lagOfFrame_44 : decode cX9_lagOfFrame 44 = .ok (.iload 5, 2) := by decide +kernel
theorem dX9_lagOfFrame_46 : decode cX9_lagOfFrame 46 = .ok (.iadd, 1) := by decide +kernel
theorem dX9_lagOfFrame_47 : decode cX9_lagOfFrame 47 = .ok (.iaload, 1) := by decide +kernel
theorem dX9_lagOfFrame_48 : decode cX9_lagOfFrame 48 = .ok (.isub, 1) := by decide +kernel
theorem dX9_lagOfFrame_49 : decode cX9_lagOfFrame 49 = .ok (.invokestatic 101, 3) := by decide +kernel
theorem dX9_lagOfFrame_52 : decode cX9_lagOfFrame 52 = .ok (.iadd, 1) := by decide +kernel
theorem dX9_lagOfFrame_53 : decode cX9_lagOfFrame 53 = .ok (.istore 4, 2) := by decide +kernel
theorem dX9_lagOfFrame_55 : decode cX9_lagOfFrame 55 = .ok (.iinc 5 1, 3) := by decide +kernel
theorem dX9_lagOfFrame_58 : decode cX9_lagOfFrame 58 = .ok (.goto (-34), 3) := by decide +kernel
theorem dX9_lagOfFrame_61 : decode cX9_lagOfFrame 61 = .ok (.iload_n 2, 1) := by decide +kernel
theorem dX9_lagOfFrame_62 : decode cX9_lagOfFrame 62 = .ok (.ifCond .lt 13, 3) := by decide +kernel
theorem dX9_lagOfFrame_65 : decode cX9_lagOfFrame 65 = .ok (.iload 4, 2) := by decide +kernel
theorem dX9_lagOfFrame_67 : decode cX9_lagOfFrame 67 = .ok (.iload_n 1, 1) := by decide +kernel
theorem dX9_lagOfFrame_68 : decode cX9_lagOfFrame 68 = .ok (.imul, 1) := by decide +kernel
theorem dX9_lagOfFrame_69 : decode cX9_lagOfFrame 69 = .ok (.iload_n 2, 1) := by decide +kernel
theorem dX9_lagOfFrame_70 : decode cX9_lagOfFrame 70 = .ok (.iload_n 3, 1) := by decide +kernel
theorem dX9_lagOfFrame_71 : decode cX9_lagOfFrame 71 = .ok (.imul, 1) := by decide +kernel
theorem dX9_lagOfFrame_72 : decode cX9_lagOfFrame 72 = .ok (.if_icmp .ge 8, 3) := by decide +kernel
theorem dX9_lagOfFrame_75 : decode cX9_lagOfFrame 75 = .ok (.iload_n 3, 1) := by decide +kernel
theorem dX9_lagOfFrame_76 : decode cX9_lagOfFrame 76 = .ok (.istore_n 1, 1) := by decide +kernel
theorem dX9_lagOfFrame_77 : decode cX9_lagOfFrame 77 = .ok (.iload 4, 2) := by decide +kernel
theorem dX9_lagOfFrame_79 : decode cX9_lagOfFrame 79 = .ok (.istore_n 2, 1) := by decide +kernel
theorem dX9_lagOfFrame_80 : decode cX9_lagOfFrame 80 = .ok (.iinc 3 1, 3) := by decide +kernel
theorem dX9_lagOfFrame_83 : decode cX9_lagOfFrame 83 = .ok (.goto (-77), 3) := by decide +kernel
theorem dX9_lagOfFrame_86 : decode cX9_lagOfFrame 86 = .ok (.iload_n 1, 1) := by decide +kernel
theorem dX9_lagOfFrame_87 : decode cX9_lagOfFrame 87 = .ok (.ireturn, 1) := by decide +kernel
theorem dX9_fits_0 : decode cX9_fits 0 = .ok (.aload_n 0, 1) := by decide +kernel
theorem dX9_fits_1 : decode cX9_fits 1 = .ok (.getfield 7, 3) := by decide +kernel
theorem dX9_fits_4 : decode cX9_fits 4 = .ok (.iconst 0, 1) := by decide +kernel
theorem dX9_fits_5 : decode cX9_fits 5 = .ok (.iaload, 1) := by decide +kernel
theorem dX9_fits_6 : decode cX9_fits 6 = .ok (.istore_n 2, 1) := by decide +kernel
theorem dX9_fits_7 : decode cX9_fits 7 = .ok (.iconst 0, 1) := by decide +kernel
theorem dX9_fits_8 : decode cX9_fits 8 = .ok (.istore_n 3, 1) := by decide +kernel
theorem dX9_fits_9 : decode cX9_fits 9 = .ok (.iload_n 3, 1) := by decide +kernel
theorem dX9_fits_10 : decode cX9_fits 10 = .ok (.iload_n 2, 1) := by decide +kernel
theorem dX9_fits_11 : decode cX9_fits 11 = .ok (.if_icmp .ge 21, 3) := by decide +kernel
theorem dX9_fits_14 : decode cX9_fits 14 = .ok (.aload_n 0, 1) := by decide +kernel
theorem dX9_fits_15 : decode cX9_fits 15 = .ok (.getfield 29, 3) := by decide +kernel
theorem dX9_fits_18 : decode cX9_fits 18 = .ok (.iload_n 3, 1) := by decide +kernel
theorem dX9_fits_19 : decode cX9_fits 19 = .ok (.aload_n 0, 1) := by decide +kernel
theorem dX9_fits_20 : decode cX9_fits 20 = .ok (.iload_n 1, 1) := by decide +kernel
theorem dX9_fits_21 : decode cX9_fits 21 = .ok (.iload_n 3, 1) := by decide +kernel
theorem dX9_fits_22 : decode cX9_fits 22 = .ok (.invokevirtual 104, 3) := by decide +kernel
theorem dX9_fits_25 : decode cX9_fits 25 = .ok (.iastore, 1) := by decide +kernel
theorem dX9_fits_26 : decode cX9_fits 26 = .ok (.iinc 3 1, 3) := by decide +kernel
theorem dX9_fits_29 : decode cX9_fits 29 = .ok (.goto (-20), 3) := by decide +kernel
theorem dX9_fits_32 : decode cX9_fits 32 = .ok (.aload_n 0, 1) := by decide +kernel
theorem dX9_fits_33 : decode cX9_fits 33 = .ok (.iload_n 1, 1) := by decide +kernel
theorem dX9_fits_34 : decode cX9_fits 34 = .ok (.iconst 1, 1) := by decide +kernel
theorem dX9_fits_35 : decode cX9_fits 35 = .ok (.iadd, 1) := by decide +kernel
theorem dX9_fits_36 : decode cX9_fits 36 = .ok (.invokevirtual 107, 3) := by decide +kernel
theorem dX9_fits_39 : decode cX9_fits 39 = .ok (.istore_n 3, 1) := by decide +kernel
theorem dX9_fits_40 : decode cX9_fits 40 = .ok (.aload_n 0, 1) := by decide +kernel
theorem dX9_fits_41 : decode cX9_fits 41 = .ok (.invokevirtual 110, 3) := by decide +kernel
theorem dX9_fits_44 : decode cX9_fits 44 = .ok (.istore 4, 2) := by decide +kernel
theorem dX9_fits_46 : decode cX9_fits 46 = .ok (.aload_n 0, 1) := by decide +kernel
theorem dX9_fits_47 : decode cX9_fits 47 = .ok (.getfield 7, 3) := by decide +kernel
theorem dX9_fits_50 : decode cX9_fits 50 = .ok (.bipush 8, 2) := by decide +kernel
theorem dX9_fits_52 : decode cX9_fits 52 = .ok (.iaload, 1) := by decide +kernel
theorem dX9_fits_53 : decode cX9_fits 53 = .ok (.iconst 1, 1) := by decide +kernel
theorem dX9_fits_54 : decode cX9_fits 54 = .ok (.if_icmp .ne 15, 3) := by decide +kernel
theorem dX9_fits_57 : decode cX9_fits 57 = .ok (.iload_n 3, 1) := by decide +kernel
theorem dX9_fits_58 : decode cX9_fits 58 = .ok (.iload 4, 2) := by decide +kernel
theorem dX9_fits_60 : decode cX9_fits 60 = .ok (.iload_n 2, 1) := by decide +kernel
theorem dX9_fits_61 : decode cX9_fits 61 = .ok (.iadd, 1) := by decide +kernel
theorem dX9_fits_62 : decode cX9_fits 62 = .ok (.if_icmp .le 7, 3) := by decide +kernel
theorem dX9_fits_65 : decode cX9_fits 65 = .ok (.iconst 1, 1) := by decide +kernel
theorem dX9_fits_66 : decode cX9_fits 66 = .ok (.goto 4, 3) := by decide +kernel
theorem dX9_fits_69 : decode cX9_fits 69 = .ok (.iconst 0, 1) := by decide +kernel
theorem dX9_fits_70 : decode cX9_fits 70 = .ok (.istore 5, 2) := by decide +kernel
theorem dX9_fits_72 : decode cX9_fits 72 = .ok (.aload_n 0, 1) := by decide +kernel
theorem dX9_fits_73 : decode cX9_fits 73 = .ok (.getfield 7, 3) := by decide +kernel
theorem dX9_fits_76 : decode cX9_fits 76 = .ok (.bipush 8, 2) := by decide +kernel
theorem dX9_fits_78 : decode cX9_fits 78 = .ok (.iaload, 1) := by decide +kernel
theorem dX9_fits_79 : decode cX9_fits 79 = .ok (.iconst 1, 1) := by decide +kernel
theorem dX9_fits_80 : decode cX9_fits 80 = .ok (.if_icmp .ne 15, 3) := by decide +kernel
theorem dX9_fits_83 : decode cX9_fits 83 = .ok (.iload_n 3, 1) := by decide +kernel
theorem dX9_fits_84 : decode cX9_fits 84 = .ok (.iload_n 2, 1) := by decide +kernel
theorem dX9_fits_85 : decode cX9_fits 85 = .ok (.iadd, 1) := by decide +kernel
theorem dX9_fits_86 : decode cX9_fits 86 = .ok (.iload 4, 2) := by decide +kernel
theorem dX9_fits_88 : decode cX9_fits 88 = .ok (.if_icmp .ge 7, 3) := by decide +kernel
theorem dX9_fits_91 : decode cX9_fits 91 = .ok (.iconst 1, 1) := by decide +kernel
theorem dX9_fits_92 : decode cX9_fits 92 = .ok (.goto 4, 3) := by decide +kernel
theorem dX9_fits_95 : decode cX9_fits 95 = .ok (.iconst 0, 1) := by decide +kernel
theorem dX9_fits_96 : decode cX9_fits 96 = .ok (.istore 6, 2) := by decide +kernel
theorem dX9_fits_98 : decode cX9_fits 98 = .ok (.aload_n 0, 1) := by decide +kernel
theorem dX9_fits_99 : decode cX9_fits 99 = .ok (.invokevirtual 113, 3) := by decide +kernel
theorem dX9_fits_102 : decode cX9_fits 102 = .ok (.istore 7, 2) := by decide +kernel
theorem dX9_fits_104 : decode cX9_fits 104 = .ok (.aload_n 0, 1) := by decide +kernel
theorem dX9_fits_105 : decode cX9_fits 105 = .ok (.getfield 7, 3) := by decide +kernel
theorem dX9_fits_108 : decode cX9_fits 108 = .ok (.bipush 16, 2) := by decide +kernel
theorem dX9_fits_110 : decode cX9_fits 110 = .ok (.dup2, 1) := by decide +kernel
theorem dX9_fits_111 : decode cX9_fits 111 = .ok (.iaload, 1) := by decide +kernel
theorem dX9_fits_112 : decode cX9_fits 112 = .ok (.iload 5, 2) := by decide +kernel
theorem dX9_fits_114 : decode cX9_fits 114 = .ok (.ifCond .eq 7, 3) := by decide +kernel
theorem dX9_fits_117 : decode cX9_fits 117 = .ok (.iconst 1, 1) := by decide +kernel
theorem dX9_fits_118 : decode cX9_fits 118 = .ok (.goto 4, 3) := by decide +kernel
theorem dX9_fits_121 : decode cX9_fits 121 = .ok (.iconst 0, 1) := by decide +kernel
theorem dX9_fits_122 : decode cX9_fits 122 = .ok (.iadd, 1) := by decide +kernel
theorem dX9_fits_123 : decode cX9_fits 123 = .ok (.iastore, 1) := by decide +kernel
theorem dX9_fits_124 : decode cX9_fits 124 = .ok (.aload_n 0, 1) := by decide +kernel
theorem dX9_fits_125 : decode cX9_fits 125 = .ok (.getfield 7, 3) := by decide +kernel
theorem dX9_fits_128 : decode cX9_fits 128 = .ok (.bipush 15, 2) := by decide +kernel
theorem dX9_fits_130 : decode cX9_fits 130 = .ok (.dup2, 1) := by decide +kernel
theorem dX9_fits_131 : decode cX9_fits 131 = .ok (.iaload, 1) := by decide +kernel
theorem dX9_fits_132 : decode cX9_fits 132 = .ok (.iload 6, 2) := by decide +kernel
theorem dX9_fits_134 : decode cX9_fits 134 = .ok (.ifCond .eq 7, 3) := by decide +kernel
theorem dX9_fits_137 : decode cX9_fits 137 = .ok (.iconst 1, 1) := by decide +kernel
theorem dX9_fits_138 : decode cX9_fits 138 = .ok (.goto 4, 3) := by decide +kernel
theorem dX9_fits_141 : decode cX9_fits 141 = .ok (.iconst 0, 1) := by decide +kernel
theorem dX9_fits_142 : decode cX9_fits 142 = .ok (.iadd, 1) := by decide +kernel
theorem dX9_fits_143 : decode cX9_fits 143 = .ok (.iastore, 1) := by decide +kernel
theorem dX9_fits_144 : decode cX9_fits 144 = .ok (.iconst 0, 1) := by decide +kernel
theorem dX9_fits_145 : decode cX9_fits 145 = .ok (.istore 8, 2) := by decide +kernel
theorem dX9_fits_147 : decode cX9_fits 147 = .ok (.iload 8, 2) := by decide +kernel
theorem dX9_fits_149 : decode cX9_fits 149 = .ok (.iload 7, 2) := by decide +kernel
theorem dX9_fits_151 : decode cX9_fits 151 = .ok (.if_icmp .ge 42, 3) := by decide +kernel
theorem dX9_fits_154 : decode cX9_fits 154 = .ok (.iload 5, 2) := by decide +kernel
theorem dX9_fits_156 : decode cX9_fits 156 = .ok (.ifCond .eq 37, 3) := by decide +kernel
theorem dX9_fits_159 : decode cX9_fits 159 = .ok (.aload_n 0, 1) := by decide +kernel
theorem dX9_fits_160 : decode cX9_fits 160 = .ok (.aload_n 0, 1) := by decide +kernel
theorem dX9_fits_161 : decode cX9_fits 161 = .ok (.getfield 29, 3) := by decide +kernel
theorem dX9_fits_164 : decode cX9_fits 164 = .ok (.iload 8, 2) := by decide +kernel
theorem dX9_fits_166 : decode cX9_fits 166 = .ok (.iaload, 1) := by decide +kernel
theorem dX9_fits_167 : decode cX9_fits 167 = .ok (.aload_n 0, 1) := by decide +kernel
theorem dX9_fits_168 : decode cX9_fits 168 = .ok (.getfield 29, 3) := by decide +kernel
theorem dX9_fits_171 : decode cX9_fits 171 = .ok (.iload 8, 2) := by decide +kernel
theorem dX9_fits_173 : decode cX9_fits 173 = .ok (.iload 7, 2) := by decide +kernel
theorem dX9_fits_175 : decode cX9_fits 175 = .ok (.iadd, 1) := by decide +kernel
theorem dX9_fits_176 : decode cX9_fits 176 = .ok (.iaload, 1) := by decide +kernel
theorem dX9_fits_177 : decode cX9_fits 177 = .ok (.iload 8, 2) := by decide +kernel
theorem dX9_fits_179 : decode cX9_fits 179 = .ok (.iload 7, 2) := by decide +kernel
theorem dX9_fits_181 : decode cX9_fits 181 = .ok (.invokestatic 116, 3) := by decide +kernel
theorem dX9_fits_184 : decode cX9_fits 184 = .ok (.invokevirtual 120, 3) := by decide +kernel
theorem dX9_fits_187 : decode cX9_fits 187 = .ok (.iinc 8 1, 3) := by decide +kernel
theorem dX9_fits_190 : decode cX9_fits 190 = .ok (.goto (-43), 3) := by decide +kernel
theorem dX9_fits_193 : decode cX9_fits 193 = .ok (.iconst 0, 1) := by decide +kernel
theorem dX9_fits_194 : decode cX9_fits 194 = .ok (.istore 8, 2) := by decide +kernel
theorem dX9_fits_196 : decode cX9_fits 196 = .ok (.iload 8, 2) := by decide +kernel
theorem dX9_fits_198 : decode cX9_fits 198 = .ok (.iload 7, 2) := by decide +kernel
theorem dX9_fits_200 : decode cX9_fits 200 = .ok (.if_icmp .ge 25, 3) := by decide +kernel
theorem dX9_fits_203 : decode cX9_fits 203 = .ok (.iload 5, 2) := by decide +kernel
theorem dX9_fits_205 : decode cX9_fits 205 = .ok (.ifCond .ne 20, 3) := by decide +kernel
theorem dX9_fits_208 : decode cX9_fits 208 = .ok (.aload_n 0, 1) := by decide +kernel
theorem dX9_fits_209 : decode cX9_fits 209 = .ok (.aload_n 0, 1) := by decide +kernel
theorem dX9_fits_210 : decode cX9_fits 210 = .ok (.getfield 29, 3) := by decide +kernel
theorem dX9_fits_213 : decode cX9_fits 213 = .ok (.iload 8, 2) := by decide +kernel
theorem dX9_fits_215 : decode cX9_fits 215 = .ok (.iaload, 1) := by decide +kernel
theorem dX9_fits_216 : decode cX9_fits 216 = .ok (.invokevirtual 120, 3) := by decide +kernel
theorem dX9_fits_219 : decode cX9_fits 219 = .ok (.iinc 8 1, 3) := by decide +kernel
theorem dX9_fits_222 : decode cX9_fits 222 = .ok (.goto (-26), 3) := by decide +kernel
theorem dX9_fits_225 : decode cX9_fits 225 = .ok (.iconst 0, 1) := by decide +kernel
theorem dX9_fits_226 : decode cX9_fits 226 = .ok (.istore 8, 2) := by decide +kernel
theorem dX9_fits_228 : decode cX9_fits 228 = .ok (.iload 8, 2) := by decide +kernel
theorem dX9_fits_230 : decode cX9_fits 230 = .ok (.iload 7, 2) := by decide +kernel
theorem dX9_fits_232 : decode cX9_fits 232 = .ok (.if_icmp .ge 42, 3) := by decide +kernel
theorem dX9_fits_235 : decode cX9_fits 235 = .ok (.iload 6, 2) := by decide +kernel
theorem dX9_fits_237 : decode cX9_fits 237 = .ok (.ifCond .eq 37, 3) := by decide +kernel
theorem dX9_fits_240 : decode cX9_fits 240 = .ok (.aload_n 0, 1) := by decide +kernel
theorem dX9_fits_241 : decode cX9_fits 241 = .ok (.aload_n 0, 1) := by decide +kernel
theorem dX9_fits_242 : decode cX9_fits 242 = .ok (.getfield 29, 3) := by decide +kernel
theorem dX9_fits_245 : decode cX9_fits 245 = .ok (.iload 8, 2) := by decide +kernel
theorem dX9_fits_247 : decode cX9_fits 247 = .ok (.iload 7, 2) := by decide +kernel
theorem dX9_fits_249 : decode cX9_fits 249 = .ok (.iadd, 1) := by decide +kernel
theorem dX9_fits_250 : decode cX9_fits 250 = .ok (.iaload, 1) := by decide +kernel
theorem dX9_fits_251 : decode cX9_fits 251 = .ok (.aload_n 0, 1) := by decide +kernel
theorem dX9_fits_252 : decode cX9_fits 252 = .ok (.getfield 29, 3) := by decide +kernel
theorem dX9_fits_255 : decode cX9_fits 255 = .ok (.iload 8, 2) := by decide +kernel
theorem dX9_fits_257 : decode cX9_fits 257 = .ok (.iaload, 1) := by decide +kernel
theorem dX9_fits_258 : decode cX9_fits 258 = .ok (.iload 8, 2) := by decide +kernel
theorem dX9_fits_260 : decode cX9_fits 260 = .ok (.iload 7, 2) := by decide +kernel
theorem dX9_fits_262 : decode cX9_fits 262 = .ok (.invokestatic 116, 3) := by decide +kernel
theorem dX9_fits_265 : decode cX9_fits 265 = .ok (.invokevirtual 120, 3) := by decide +kernel
theorem dX9_fits_268 : decode cX9_fits 268 = .ok (.iinc 8 1, 3) := by decide +kernel
theorem dX9_fits_271 : decode cX9_fits 271 = .ok (.goto (-43), 3) := by decide +kernel
theorem dX9_fits_274 : decode cX9_fits 274 = .ok (.iload 5, 2) := by decide +kernel
theorem dX9_fits_276 : decode cX9_fits 276 = .ok (.ifCond .eq 10, 3) := by decide +kernel
theorem dX9_fits_279 : decode cX9_fits 279 = .ok (.iconst 2, 1) := by decide +kernel
theorem dX9_fits_280 : decode cX9_fits 280 = .ok (.iload 7, 2) := by decide +kernel
theorem dX9_fits_282 : decode cX9_fits 282 = .ok (.imul, 1) := by decide +kernel
theorem dX9_fits_283 : decode cX9_fits 283 = .ok (.goto 5, 3) := by decide +kernel
theorem dX9_fits_286 : decode cX9_fits 286 = .ok (.iload 7, 2) := by decide +kernel
theorem dX9_fits_288 : decode cX9_fits 288 = .ok (.istore 8, 2) := by decide +kernel
theorem dX9_fits_290 : decode cX9_fits 290 = .ok (.iload 8, 2) := by decide +kernel
theorem dX9_fits_292 : decode cX9_fits 292 = .ok (.iload_n 2, 1) := by decide +kernel
theorem dX9_fits_293 : decode cX9_fits 293 = .ok (.if_icmp .ge 20, 3) := by decide +kernel
theorem dX9_fits_296 : decode cX9_fits 296 = .ok (.aload_n 0, 1) := by decide +kernel
theorem dX9_fits_297 : decode cX9_fits 297 = .ok (.aload_n 0, 1) := by decide +kernel
theorem dX9_fits_298 : decode cX9_fits 298 = .ok (.getfield 29, 3) := by decide +kernel
theorem dX9_fits_301 : decode cX9_fits 301 = .ok (.iload 8, 2) := by decide +kernel
theorem dX9_fits_303 : decode cX9_fits 303 = .ok (.iaload, 1) := by decide +kernel
theorem dX9_fits_304 : decode cX9_fits 304 = .ok (.invokevirtual 120, 3) := by decide +kernel
theorem dX9_fits_307 : decode cX9_fits 307 = .ok (.iinc 8 1, 3) := by decide +kernel
theorem dX9_fits_310 : decode cX9_fits 310 = .ok (.goto (-20), 3) := by decide +kernel
theorem dX9_fits_313 : decode cX9_fits 313 = .ok (.return_, 1) := by decide +kernel
theorem dX9_old_0 : decode cX9_old 0 = .ok (.aload_n 0, 1) := by decide +kernel
theorem dX9_old_1 : decode cX9_old 1 = .ok (.getfield 7, 3) := by decide +kernel
theorem dX9_old_4 : decode cX9_old 4 = .ok (.sipush 2054, 3) := by decide +kernel
theorem dX9_old_7 : decode cX9_old 7 = .ok (.aload_n 0, 1) := by decide +kernel
theorem dX9_old_8 : decode cX9_old 8 = .ok (.getfield 7, 3) := by decide +kernel
theorem dX9_old_11 : decode cX9_old 11 = .ok (.bipush 12, 2) := by decide +kernel
theorem dX9_old_13 : decode cX9_old 13 = .ok (.iaload, 1) := by decide +kernel
theorem dX9_old_14 : decode cX9_old 14 = .ok (.iload_n 1, 1) := by decide +kernel
theorem dX9_old_15 : decode cX9_old 15 = .ok (.isub, 1) := by decide +kernel
theorem dX9_old_16 : decode cX9_old 16 = .ok (.sipush 256, 3) := by decide +kernel
theorem dX9_old_19 : decode cX9_old 19 = .ok (.irem, 1) := by decide +kernel
theorem dX9_old_20 : decode cX9_old 20 = .ok (.iadd, 1) := by decide +kernel
theorem dX9_old_21 : decode cX9_old 21 = .ok (.iaload, 1) := by decide +kernel
theorem dX9_old_22 : decode cX9_old 22 = .ok (.ireturn, 1) := by decide +kernel
theorem dX9_lagOfHistory_0 : decode cX9_lagOfHistory 0 = .ok (.iconst 0, 1) := by decide +kernel
theorem dX9_lagOfHistory_1 : decode cX9_lagOfHistory 1 = .ok (.istore_n 1, 1) := by decide +kernel
theorem dX9_lagOfHistory_2 : decode cX9_lagOfHistory 2 = .ok (.iconst 0, 1) := by decide +kernel
theorem dX9_lagOfHistory_3 : decode cX9_lagOfHistory 3 = .ok (.istore_n 2, 1) := by decide +kernel
theorem dX9_lagOfHistory_4 : decode cX9_lagOfHistory 4 = .ok (.iconst 2, 1) := by decide +kernel
theorem dX9_lagOfHistory_5 : decode cX9_lagOfHistory 5 = .ok (.istore_n 3, 1) := by decide +kernel
theorem dX9_lagOfHistory_6 : decode cX9_lagOfHistory 6 = .ok (.iload_n 3, 1) := by decide +kernel
theorem dX9_lagOfHistory_7 : decode cX9_lagOfHistory 7 = .ok (.bipush 16, 2) := by decide +kernel
theorem dX9_lagOfHistory_9 : decode cX9_lagOfHistory 9 = .ok (.if_icmp .gt 82, 3) := by decide +kernel
theorem dX9_lagOfHistory_12 : decode cX9_lagOfHistory 12 = .ok (.iconst 2, 1) := by decide +kernel
theorem dX9_lagOfHistory_13 : decode cX9_lagOfHistory 13 = .ok (.iload_n 3, 1) := by decide +kernel
theorem dX9_lagOfHistory_14 : decode cX9_lagOfHistory 14 = .ok (.imul, 1) := by decide +kernel
theorem dX9_lagOfHistory_15 : decode cX9_lagOfHistory 15 = .ok (.aload_n 0, 1) := by decide +kernel
theorem dX9_lagOfHistory_16 : decode cX9_lagOfHistory 16 = .ok (.getfield 7, 3) := by decide +kernel
theorem dX9_lagOfHistory_19 : decode cX9_lagOfHistory 19 = .ok (.bipush 12, 2) := by decide +kernel
theorem dX9_lagOfHistory_21 : decode cX9_lagOfHistory 21 = .ok (.iaload, 1) := by decide +kernel
theorem dX9_lagOfHistory_22 : decode cX9_lagOfHistory 22 = .ok (.if_icmp .gt 69, 3) := by decide +kernel
theorem dX9_lagOfHistory_25 : decode cX9_lagOfHistory 25 = .ok (.iconst 0, 1) := by decide +kernel
theorem dX9_lagOfHistory_26 : decode cX9_lagOfHistory 26 = .ok (.istore 4, 2) := by decide +kernel
theorem dX9_lagOfHistory_28 : decode cX9_lagOfHistory 28 = .ok (.iconst 1, 1) := by decide +kernel
theorem dX9_lagOfHistory_29 : decode cX9_lagOfHistory 29 = .ok (.istore 5, 2) := by decide +kernel
theorem dX9_lagOfHistory_31 : decode cX9_lagOfHistory 31 = .ok (.iload 5, 2) := by decide +kernel
theorem dX9_lagOfHistory_33 : decode cX9_lagOfHistory 33 = .ok (.iload_n 3, 1) := by decide +kernel
theorem dX9_lagOfHistory_34 : decode cX9_lagOfHistory 34 = .ok (.if_icmp .gt 32, 3) := by decide +kernel
theorem dX9_lagOfHistory_37 : decode cX9_lagOfHistory 37 = .ok (.iload 4, 2) := by decide +kernel
theorem dX9_lagOfHistory_39 : decode cX9_lagOfHistory 39 = .ok (.aload_n 0, 1) := by decide +kernel
theorem dX9_lagOfHistory_40 : decode cX9_lagOfHistory 40 = .ok (.iload 5, 2) := by decide +kernel
theorem dX9_lagOfHistory_42 : decode cX9_lagOfHistory 42 = .ok (.invokevirtual 123, 3) := by decide +kernel
theorem dX9_lagOfHistory_45 : decode cX9_lagOfHistory 45 = .ok (.aload_n 0, 1) := by decide +kernel
theorem dX9_lagOfHistory_46 : decode cX9_lagOfHistory 46 = .ok (.iload 5, 2) := by decide +kernel
theorem dX9_lagOfHistory_48 : decode cX9_lagOfHistory 48 = .ok (.iload_n 3, 1) := by decide +kernel
theorem dX9_lagOfHistory_49 : decode cX9_lagOfHistory 49 = .ok (.iadd, 1) := by decide +kernel
theorem dX9_lagOfHistory_50 : decode cX9_lagOfHistory 50 = .ok (.invokevirtual 123, 3) := by decide +kernel
theorem dX9_lagOfHistory_53 : decode cX9_lagOfHistory 53 = .ok (.isub, 1) := by decide +kernel
theorem dX9_lagOfHistory_54 : decode cX9_lagOfHistory 54 = .ok (.invokestatic 101, 3) := by decide +kernel
theorem dX9_lagOfHistory_57 : decode cX9_lagOfHistory 57 = .ok (.iadd, 1) := by decide +kernel
theorem dX9_lagOfHistory_58 : decode cX9_lagOfHistory 58 = .ok (.istore 4, 2) := by decide +kernel
theorem dX9_lagOfHistory_60 : decode cX9_lagOfHistory 60 = .ok (.iinc 5 1, 3) := by decide +kernel
theorem dX9_lagOfHistory_63 : decode cX9_lagOfHistory 63 = .ok (.goto (-32), 3) := by decide +kernel
theorem dX9_lagOfHistory_66 : decode cX9_lagOfHistory 66 = .ok (.iload_n 1, 1) := by decide +kernel
theorem dX9_lagOfHistory_67 : decode cX9_lagOfHistory 67 = .ok (.ifCond .eq 13, 3) := by decide +kernel
theorem dX9_lagOfHistory_70 : decode cX9_lagOfHistory 70 = .ok (.iload 4, 2) := by decide +kernel
theorem dX9_lagOfHistory_72 : decode cX9_lagOfHistory 72 = .ok (.iload_n 1, 1) := by decide +kernel
theorem dX9_lagOfHistory_73 : decode cX9_lagOfHistory 73 = .ok (.imul, 1) := by decide +kernel
theorem dX9_lagOfHistory_74 : decode cX9_lagOfHistory 74 = .ok (.iload_n 2, 1) := by decide +kernel
theorem dX9_lagOfHistory_75 : decode cX9_lagOfHistory 75 = .ok (.iload_n 3, 1) := by decide +kernel
theorem dX9_lagOfHistory_76 : decode cX9_lagOfHistory 76 = .ok (.imul, 1) := by decide +kernel
theorem dX9_lagOfHistory_77 : decode cX9_lagOfHistory 77 = .ok (.if_icmp .ge 8, 3) := by decide +kernel
theorem dX9_lagOfHistory_80 : decode cX9_lagOfHistory 80 = .ok (.iload_n 3, 1) := by decide +kernel
theorem dX9_lagOfHistory_81 : decode cX9_lagOfHistory 81 = .ok (.istore_n 1, 1) := by decide +kernel
theorem dX9_lagOfHistory_82 : decode cX9_lagOfHistory 82 = .ok (.iload 4, 2) := by decide +kernel
theorem dX9_lagOfHistory_84 : decode cX9_lagOfHistory 84 = .ok (.istore_n 2, 1) := by decide +kernel
theorem dX9_lagOfHistory_85 : decode cX9_lagOfHistory 85 = .ok (.iinc 3 1, 3) := by decide +kernel
theorem dX9_lagOfHistory_88 : decode cX9_lagOfHistory 88 = .ok (.goto (-82), 3) := by decide +kernel
theorem dX9_lagOfHistory_91 : decode cX9_lagOfHistory 91 = .ok (.iload_n 1, 1) := by decide +kernel
theorem dX9_lagOfHistory_92 : decode cX9_lagOfHistory 92 = .ok (.ireturn, 1) := by decide +kernel
theorem dX9_conceals_0 : decode cX9_conceals 0 = .ok (.aload_n 0, 1) := by decide +kernel
theorem dX9_conceals_1 : decode cX9_conceals 1 = .ok (.invokevirtual 126, 3) := by decide +kernel
theorem dX9_conceals_4 : decode cX9_conceals 4 = .ok (.istore_n 1, 1) := by decide +kernel
theorem dX9_conceals_5 : decode cX9_conceals 5 = .ok (.iconst 0, 1) := by decide +kernel
theorem dX9_conceals_6 : decode cX9_conceals 6 = .ok (.istore_n 2, 1) := by decide +kernel
theorem dX9_conceals_7 : decode cX9_conceals 7 = .ok (.iload_n 2, 1) := by decide +kernel
theorem dX9_conceals_8 : decode cX9_conceals 8 = .ok (.aload_n 0, 1) := by decide +kernel
theorem dX9_conceals_9 : decode cX9_conceals 9 = .ok (.getfield 7, 3) := by decide +kernel
theorem dX9_conceals_12 : decode cX9_conceals 12 = .ok (.iconst 0, 1) := by decide +kernel
theorem dX9_conceals_13 : decode cX9_conceals 13 = .ok (.iaload, 1) := by decide +kernel
theorem dX9_conceals_14 : decode cX9_conceals 14 = .ok (.if_icmp .ge 59, 3) := by decide +kernel
theorem dX9_conceals_17 : decode cX9_conceals 17 = .ok (.iload_n 1, 1) := by decide +kernel
theorem dX9_conceals_18 : decode cX9_conceals 18 = .ok (.ifCond .ne 7, 3) := by decide +kernel
theorem dX9_conceals_21 : decode cX9_conceals 21 = .ok (.iconst 0, 1) := by decide +kernel
theorem dX9_conceals_22 : decode cX9_conceals 22 = .ok (.goto 12, 3) := by decide +kernel
theorem dX9_conceals_25 : decode cX9_conceals 25 = .ok (.aload_n 0, 1) := by decide +kernel
theorem dX9_conceals_26 : decode cX9_conceals 26 = .ok (.iload_n 1, 1) := by decide +kernel
theorem dX9_conceals_27 : decode cX9_conceals 27 = .ok (.iload_n 2, 1) := by decide +kernel
theorem dX9_conceals_28 : decode cX9_conceals 28 = .ok (.iload_n 1, 1) := by decide +kernel
theorem dX9_conceals_29 : decode cX9_conceals 29 = .ok (.irem, 1) := by decide +kernel
theorem dX9_conceals_30 : decode cX9_conceals 30 = .ok (.isub, 1) := by decide +kernel
theorem dX9_conceals_31 : decode cX9_conceals 31 = .ok (.invokevirtual 123, 3) := by decide +kernel
theorem dX9_conceals_34 : decode cX9_conceals 34 = .ok (.istore_n 3, 1) := by decide +kernel
theorem dX9_conceals_35 : decode cX9_conceals 35 = .ok (.iconst 0, 1) := by decide +kernel
theorem dX9_conceals_36 : decode cX9_conceals 36 = .ok (.istore 4, 2) := by decide +kernel
theorem dX9_conceals_38 : decode cX9_conceals 38 = .ok (.iload 4, 2) := by decide +kernel
theorem dX9_conceals_40 : decode cX9_conceals 40 = .ok (.aload_n 0, 1) := by decide +kernel
theorem dX9_conceals_41 : decode cX9_conceals 41 = .ok (.getfield 7, 3) := by decide +kernel
theorem dX9_conceals_44 : decode cX9_conceals 44 = .ok (.bipush 13, 2) := by decide +kernel
theorem dX9_conceals_46 : decode cX9_conceals 46 = .ok (.iaload, 1) := by decide +kernel
theorem dX9_conceals_47 : decode cX9_conceals 47 = .ok (.if_icmp .ge 15, 3) := by decide +kernel
theorem dX9_conceals_50 : decode cX9_conceals 50 = .ok (.iload_n 3, 1) := by decide +kernel
theorem dX9_conceals_51 : decode cX9_conceals 51 = .ok (.iconst 3, 1) := by decide +kernel
theorem dX9_conceals_52 : decode cX9_conceals 52 = .ok (.imul, 1) := by decide +kernel
theorem dX9_conceals_53 : decode cX9_conceals 53 = .ok (.iconst 4, 1) := by decide +kernel
theorem dX9_conceals_54 : decode cX9_conceals 54 = .ok (.idiv, 1) := by decide +kernel
theorem dX9_conceals_55 : decode cX9_conceals 55 = .ok (.istore_n 3, 1) := by decide +kernel
theorem dX9_conceals_56 : decode cX9_conceals 56 = .ok (.iinc 4 1, 3) := by decide +kernel
theorem dX9_conceals_59 : decode cX9_conceals 59 = .ok (.goto (-21), 3) := by decide +kernel
theorem dX9_conceals_62 : decode cX9_conceals 62 = .ok (.aload_n 0, 1) := by decide +kernel
theorem dX9_conceals_63 : decode cX9_conceals 63 = .ok (.iload_n 3, 1) := by decide +kernel
theorem dX9_conceals_64 : decode cX9_conceals 64 = .ok (.invokevirtual 120, 3) := by decide +kernel
theorem dX9_conceals_67 : decode cX9_conceals 67 = .ok (.iinc 2 1, 3) := by decide +kernel
theorem dX9_conceals_70 : decode cX9_conceals 70 = .ok (.goto (-63), 3) := by decide +kernel
theorem dX9_conceals_73 : decode cX9_conceals 73 = .ok (.return_, 1) := by decide +kernel
theorem dX9_takes_0 : decode cX9_takes 0 = .ok (.aload_n 0, 1) := by decide +kernel
theorem dX9_takes_1 : decode cX9_takes 1 = .ok (.getfield 7, 3) := by decide +kernel
theorem dX9_takes_4 : decode cX9_takes 4 = .ok (.bipush 11, 2) := by decide +kernel
theorem dX9_takes_6 : decode cX9_takes 6 = .ok (.iaload, 1) := by decide +kernel
theorem dX9_takes_7 : decode cX9_takes 7 = .ok (.istore_n 1, 1) := by decide +kernel
theorem dX9_takes_8 : decode cX9_takes 8 = .ok (.aload_n 0, 1) := by decide +kernel
theorem dX9_takes_9 : decode cX9_takes 9 = .ok (.getfield 7, 3) := by decide +kernel
theorem dX9_takes_12 : decode cX9_takes 12 = .ok (.bipush 30, 2) := by decide +kernel
theorem dX9_takes_14 : decode cX9_takes 14 = .ok (.iload_n 1, 1) := by decide +kernel
theorem dX9_takes_15 : decode cX9_takes 15 = .ok (.iadd, 1) := by decide +kernel
theorem dX9_takes_16 : decode cX9_takes 16 = .ok (.iaload, 1) := by decide +kernel
theorem dX9_takes_17 : decode cX9_takes 17 = .ok (.iconst 2, 1) := by decide +kernel
theorem dX9_takes_18 : decode cX9_takes 18 = .ok (.if_icmp .ne 7, 3) := by decide +kernel
theorem dX9_takes_21 : decode cX9_takes 21 = .ok (.iconst 1, 1) := by decide +kernel
theorem dX9_takes_22 : decode cX9_takes 22 = .ok (.goto 21, 3) := by decide +kernel
theorem dX9_takes_25 : decode cX9_takes 25 = .ok (.aload_n 0, 1) := by decide +kernel
theorem dX9_takes_26 : decode cX9_takes 26 = .ok (.getfield 7, 3) := by decide +kernel
theorem dX9_takes_29 : decode cX9_takes 29 = .ok (.bipush 30, 2) := by decide +kernel
theorem dX9_takes_31 : decode cX9_takes 31 = .ok (.iload_n 1, 1) := by decide +kernel
theorem dX9_takes_32 : decode cX9_takes 32 = .ok (.iadd, 1) := by decide +kernel
theorem dX9_takes_33 : decode cX9_takes 33 = .ok (.iaload, 1) := by decide +kernel
theorem dX9_takes_34 : decode cX9_takes 34 = .ok (.iconst 1, 1) := by decide +kernel
theorem dX9_takes_35 : decode cX9_takes 35 = .ok (.if_icmp .ne 7, 3) := by decide +kernel
theorem dX9_takes_38 : decode cX9_takes 38 = .ok (.iconst 2, 1) := by decide +kernel
theorem dX9_takes_39 : decode cX9_takes 39 = .ok (.goto 4, 3) := by decide +kernel
theorem dX9_takes_42 : decode cX9_takes 42 = .ok (.iconst 3, 1) := by decide +kernel
theorem dX9_takes_43 : decode cX9_takes 43 = .ok (.istore_n 2, 1) := by decide +kernel
theorem dX9_takes_44 : decode cX9_takes 44 = .ok (.aload_n 0, 1) := by decide +kernel
theorem dX9_takes_45 : decode cX9_takes 45 = .ok (.getfield 7, 3) := by decide +kernel
theorem dX9_takes_48 : decode cX9_takes 48 = .ok (.bipush 22, 2) := by decide +kernel
theorem dX9_takes_50 : decode cX9_takes 50 = .ok (.iconst 0, 1) := by decide +kernel
theorem dX9_takes_51 : decode cX9_takes 51 = .ok (.iastore, 1) := by decide +kernel
theorem dX9_takes_52 : decode cX9_takes 52 = .ok (.aload_n 0, 1) := by decide +kernel
theorem dX9_takes_53 : decode cX9_takes 53 = .ok (.getfield 7, 3) := by decide +kernel
theorem dX9_takes_56 : decode cX9_takes 56 = .ok (.bipush 23, 2) := by decide +kernel
theorem dX9_takes_58 : decode cX9_takes 58 = .ok (.iconst 0, 1) := by decide +kernel
theorem dX9_takes_59 : decode cX9_takes 59 = .ok (.iastore, 1) := by decide +kernel
theorem dX9_takes_60 : decode cX9_takes 60 = .ok (.iload_n 2, 1) := by decide +kernel
theorem dX9_takes_61 : decode cX9_takes 61 = .ok (.iconst 3, 1) := by decide +kernel
theorem dX9_takes_62 : decode cX9_takes 62 = .ok (.if_icmp .ne 62, 3) := by decide +kernel
theorem dX9_takes_65 : decode cX9_takes 65 = .ok (.aload_n 0, 1) := by decide +kernel
theorem dX9_takes_66 : decode cX9_takes 66 = .ok (.getfield 7, 3) := by decide +kernel
theorem dX9_takes_69 : decode cX9_takes 69 = .ok (.bipush 13, 2) := by decide +kernel
theorem dX9_takes_71 : decode cX9_takes 71 = .ok (.dup2, 1) := by decide +kernel
theorem dX9_takes_72 : decode cX9_takes 72 = .ok (.iaload, 1) := by decide +kernel
theorem dX9_takes_73 : decode cX9_takes 73 = .ok (.iconst 1, 1) := by decide +kernel
theorem dX9_takes_74 : decode cX9_takes 74 = .ok (.iadd, 1) := by decide +kernel
theorem dX9_takes_75 : decode cX9_takes 75 = .ok (.iastore, 1) := by decide +kernel
theorem dX9_takes_76 : decode cX9_takes 76 = .ok (.aload_n 0, 1) := by decide +kernel
theorem dX9_takes_77 : decode cX9_takes 77 = .ok (.getfield 7, 3) := by decide +kernel
theorem dX9_takes_80 : decode cX9_takes 80 = .ok (.bipush 14, 2) := by decide +kernel
theorem dX9_takes_82 : decode cX9_takes 82 = .ok (.aload_n 0, 1) := by decide +kernel
theorem dX9_takes_83 : decode cX9_takes 83 = .ok (.getfield 7, 3) := by decide +kernel
theorem dX9_takes_86 : decode cX9_takes 86 = .ok (.bipush 13, 2) := by decide +kernel
theorem dX9_takes_88 : decode cX9_takes 88 = .ok (.iaload, 1) := by decide +kernel
theorem dX9_takes_89 : decode cX9_takes 89 = .ok (.aload_n 0, 1) := by decide +kernel
theorem dX9_takes_90 : decode cX9_takes 90 = .ok (.getfield 7, 3) := by decide +kernel
theorem dX9_takes_93 : decode cX9_takes 93 = .ok (.bipush 14, 2) := by decide +kernel
theorem dX9_takes_95 : decode cX9_takes 95 = .ok (.iaload, 1) := by decide +kernel
theorem dX9_takes_96 : decode cX9_takes 96 = .ok (.if_icmp .le 13, 3) := by decide +kernel
theorem dX9_takes_99 : decode cX9_takes 99 = .ok (.aload_n 0, 1) := by decide +kernel
theorem dX9_takes_100 : decode cX9_takes 100 = .ok (.getfield 7, 3) := by decide +kernel
theorem dX9_takes_103 : decode cX9_takes 103 = .ok (.bipush 13, 2) := by decide +kernel
theorem dX9_takes_105 : decode cX9_takes 105 = .ok (.iaload, 1) := by decide +kernel
theorem dX9_takes_106 : decode cX9_takes 106 = .ok (.goto 10, 3) := by decide +kernel
theorem dX9_takes_109 : decode cX9_takes 109 = .ok (.aload_n 0, 1) := by decide +kernel
theorem dX9_takes_110 : decode cX9_takes 110 = .ok (.getfield 7, 3) := by decide +kernel
theorem dX9_takes_113 : decode cX9_takes 113 = .ok (.bipush 14, 2) := by decide +kernel
theorem dX9_takes_115 : decode cX9_takes 115 = .ok (.iaload, 1) := by decide +kernel
theorem dX9_takes_116 : decode cX9_takes 116 = .ok (.iastore, 1) := by decide +kernel
theorem dX9_takes_117 : decode cX9_takes 117 = .ok (.aload_n 0, 1) := by decide +kernel
theorem dX9_takes_118 : decode cX9_takes 118 = .ok (.invokevirtual 129, 3) := by decide +kernel
theorem dX9_takes_121 : decode cX9_takes 121 = .ok (.goto 16, 3) := by decide +kernel
theorem dX9_takes_124 : decode cX9_takes 124 = .ok (.aload_n 0, 1) := by decide +kernel
theorem dX9_takes_125 : decode cX9_takes 125 = .ok (.getfield 7, 3) := by decide +kernel
theorem dX9_takes_128 : decode cX9_takes 128 = .ok (.bipush 13, 2) := by decide +kernel
theorem dX9_takes_130 : decode cX9_takes 130 = .ok (.iconst 0, 1) := by decide +kernel
theorem dX9_takes_131 : decode cX9_takes 131 = .ok (.iastore, 1) := by decide +kernel
theorem dX9_takes_132 : decode cX9_takes 132 = .ok (.aload_n 0, 1) := by decide +kernel
theorem dX9_takes_133 : decode cX9_takes 133 = .ok (.iload_n 1, 1) := by decide +kernel
theorem dX9_takes_134 : decode cX9_takes 134 = .ok (.invokevirtual 132, 3) := by decide +kernel
theorem dX9_takes_137 : decode cX9_takes 137 = .ok (.aload_n 0, 1) := by decide +kernel
theorem dX9_takes_138 : decode cX9_takes 138 = .ok (.getfield 7, 3) := by decide +kernel
theorem dX9_takes_141 : decode cX9_takes 141 = .ok (.bipush 18, 2) := by decide +kernel
theorem dX9_takes_143 : decode cX9_takes 143 = .ok (.iload_n 2, 1) := by decide +kernel
theorem dX9_takes_144 : decode cX9_takes 144 = .ok (.iadd, 1) := by decide +kernel
theorem dX9_takes_145 : decode cX9_takes 145 = .ok (.dup2, 1) := by decide +kernel
theorem dX9_takes_146 : decode cX9_takes 146 = .ok (.iaload, 1) := by decide +kernel
theorem dX9_takes_147 : decode cX9_takes 147 = .ok (.iconst 1, 1) := by decide +kernel
theorem dX9_takes_148 : decode cX9_takes 148 = .ok (.iadd, 1) := by decide +kernel
theorem dX9_takes_149 : decode cX9_takes 149 = .ok (.iastore, 1) := by decide +kernel
theorem dX9_takes_150 : decode cX9_takes 150 = .ok (.sipush 2341, 3) := by decide +kernel
theorem dX9_takes_153 : decode cX9_takes 153 = .ok (.istore_n 3, 1) := by decide +kernel
theorem dX9_takes_154 : decode cX9_takes 154 = .ok (.iload_n 3, 1) := by decide +kernel
theorem dX9_takes_155 : decode cX9_takes 155 = .ok (.sipush 2310, 3) := by decide +kernel
theorem dX9_takes_158 : decode cX9_takes 158 = .ok (.if_icmp .le 23, 3) := by decide +kernel
theorem dX9_takes_161 : decode cX9_takes 161 = .ok (.aload_n 0, 1) := by decide +kernel
theorem dX9_takes_162 : decode cX9_takes 162 = .ok (.getfield 7, 3) := by decide +kernel
theorem dX9_takes_165 : decode cX9_takes 165 = .ok (.iload_n 3, 1) := by decide +kernel
theorem dX9_takes_166 : decode cX9_takes 166 = .ok (.aload_n 0, 1) := by decide +kernel
theorem dX9_takes_167 : decode cX9_takes 167 = .ok (.getfield 7, 3) := by decide +kernel
theorem dX9_takes_170 : decode cX9_takes 170 = .ok (.iload_n 3, 1) := by decide +kernel
theorem dX9_takes_171 : decode cX9_takes 171 = .ok (.iconst 1, 1) := by decide +kernel
theorem dX9_takes_172 : decode cX9_takes 172 = .ok (.isub, 1) := by decide +kernel
theorem dX9_takes_173 : decode cX9_takes 173 = .ok (.iaload, 1) := by decide +kernel
theorem dX9_takes_174 : decode cX9_takes 174 = .ok (.iastore, 1) := by decide +kernel
theorem dX9_takes_175 : decode cX9_takes 175 = .ok (.iinc 3 (-1), 3) := by decide +kernel
theorem dX9_takes_178 : decode cX9_takes 178 = .ok (.goto (-24), 3) := by decide +kernel
theorem dX9_takes_181 : decode cX9_takes 181 = .ok (.aload_n 0, 1) := by decide +kernel
theorem dX9_takes_182 : decode cX9_takes 182 = .ok (.getfield 7, 3) := by decide +kernel
theorem dX9_takes_185 : decode cX9_takes 185 = .ok (.sipush 2310, 3) := by decide +kernel
theorem dX9_takes_188 : decode cX9_takes 188 = .ok (.iload_n 2, 1) := by decide +kernel
theorem dX9_takes_189 : decode cX9_takes 189 = .ok (.iastore, 1) := by decide +kernel
theorem dX9_takes_190 : decode cX9_takes 190 = .ok (.aload_n 0, 1) := by decide +kernel
theorem dX9_takes_191 : decode cX9_takes 191 = .ok (.getfield 7, 3) := by decide +kernel
theorem dX9_takes_194 : decode cX9_takes 194 = .ok (.bipush 11, 2) := by decide +kernel
theorem dX9_takes_196 : decode cX9_takes 196 = .ok (.dup2, 1) := by decide +kernel
theorem dX9_takes_197 : decode cX9_takes 197 = .ok (.iaload, 1) := by decide +kernel
theorem dX9_takes_198 : decode cX9_takes 198 = .ok (.iconst 1, 1) := by decide +kernel
theorem dX9_takes_199 : decode cX9_takes 199 = .ok (.iadd, 1) := by decide +kernel
theorem dX9_takes_200 : decode cX9_takes 200 = .ok (.iastore, 1) := by decide +kernel
theorem dX9_takes_201 : decode cX9_takes 201 = .ok (.return_, 1) := by decide +kernel
theorem dX9_tick_0 : decode cX9_tick 0 = .ok (.aload_n 0, 1) := by decide +kernel
theorem dX9_tick_1 : decode cX9_tick 1 = .ok (.invokevirtual 135, 3) := by decide +kernel
theorem dX9_tick_4 : decode cX9_tick 4 = .ok (.aload_n 0, 1) := by decide +kernel
theorem dX9_tick_5 : decode cX9_tick 5 = .ok (.getfield 7, 3) := by decide +kernel
theorem dX9_tick_8 : decode cX9_tick 8 = .ok (.bipush 27, 2) := by decide +kernel
theorem dX9_tick_10 : decode cX9_tick 10 = .ok (.iconst 0, 1) := by decide +kernel
theorem dX9_tick_11 : decode cX9_tick 11 = .ok (.iastore, 1) := by decide +kernel
theorem dX9_tick_12 : decode cX9_tick 12 = .ok (.iconst 0, 1) := by decide +kernel
theorem dX9_tick_13 : decode cX9_tick 13 = .ok (.istore_n 1, 1) := by decide +kernel
theorem dX9_tick_14 : decode cX9_tick 14 = .ok (.aload_n 0, 1) := by decide +kernel
theorem dX9_tick_15 : decode cX9_tick 15 = .ok (.getfield 7, 3) := by decide +kernel
theorem dX9_tick_18 : decode cX9_tick 18 = .ok (.bipush 10, 2) := by decide +kernel
theorem dX9_tick_20 : decode cX9_tick 20 = .ok (.iaload, 1) := by decide +kernel
theorem dX9_tick_21 : decode cX9_tick 21 = .ok (.ifCond .lt 146, 3) := by decide +kernel
theorem dX9_tick_24 : decode cX9_tick 24 = .ok (.aload_n 0, 1) := by decide +kernel
theorem dX9_tick_25 : decode cX9_tick 25 = .ok (.getfield 7, 3) := by decide +kernel
theorem dX9_tick_28 : decode cX9_tick 28 = .ok (.bipush 9, 2) := by decide +kernel
theorem dX9_tick_30 : decode cX9_tick 30 = .ok (.iaload, 1) := by decide +kernel
theorem dX9_tick_31 : decode cX9_tick 31 = .ok (.aload_n 0, 1) := by decide +kernel
theorem dX9_tick_32 : decode cX9_tick 32 = .ok (.getfield 7, 3) := by decide +kernel
theorem dX9_tick_35 : decode cX9_tick 35 = .ok (.bipush 10, 2) := by decide +kernel
theorem dX9_tick_37 : decode cX9_tick 37 = .ok (.iaload, 1) := by decide +kernel
theorem dX9_tick_38 : decode cX9_tick 38 = .ok (.if_icmp .lt 129, 3) := by decide +kernel
theorem dX9_tick_41 : decode cX9_tick 41 = .ok (.aload_n 0, 1) := by decide +kernel
theorem dX9_tick_42 : decode cX9_tick 42 = .ok (.getfield 7, 3) := by decide +kernel
theorem dX9_tick_45 : decode cX9_tick 45 = .ok (.bipush 23, 2) := by decide +kernel
theorem dX9_tick_47 : decode cX9_tick 47 = .ok (.iaload, 1) := by decide +kernel
theorem dX9_tick_48 : decode cX9_tick 48 = .ok (.aload_n 0, 1) := by decide +kernel
theorem dX9_tick_49 : decode cX9_tick 49 = .ok (.getfield 7, 3) := by decide +kernel
theorem dX9_tick_52 : decode cX9_tick 52 = .ok (.bipush 22, 2) := by decide +kernel
theorem dX9_tick_54 : decode cX9_tick 54 = .ok (.iaload, 1) := by decide +kernel
theorem dX9_tick_55 : decode cX9_tick 55 = .ok (.if_icmp .ne 35, 3) := by decide +kernel
theorem dX9_tick_58 : decode cX9_tick 58 = .ok (.aload_n 0, 1) := by decide +kernel
theorem dX9_tick_59 : decode cX9_tick 59 = .ok (.getfield 7, 3) := by decide +kernel
theorem dX9_tick_62 : decode cX9_tick 62 = .ok (.bipush 11, 2) := by decide +kernel
theorem dX9_tick_64 : decode cX9_tick 64 = .ok (.iaload, 1) := by decide +kernel
theorem dX9_tick_65 : decode cX9_tick 65 = .ok (.sipush 999, 3) := by decide +kernel
theorem dX9_tick_68 : decode cX9_tick 68 = .ok (.if_icmp .gt 22, 3) := by decide +kernel
theorem dX9_tick_71 : decode cX9_tick 71 = .ok (.aload_n 0, 1) := by decide +kernel
theorem dX9_tick_72 : decode cX9_tick 72 = .ok (.invokevirtual 138, 3) := by decide +kernel
theorem dX9_tick_75 : decode cX9_tick 75 = .ok (.aload_n 0, 1) := by decide +kernel
theorem dX9_tick_76 : decode cX9_tick 76 = .ok (.getfield 7, 3) := by decide +kernel
theorem dX9_tick_79 : decode cX9_tick 79 = .ok (.bipush 27, 2) := by decide +kernel
theorem dX9_tick_81 : decode cX9_tick 81 = .ok (.aload_n 0, 1) := by decide +kernel
theorem dX9_tick_82 : decode cX9_tick 82 = .ok (.getfield 7, 3) := by decide +kernel
theorem dX9_tick_85 : decode cX9_tick 85 = .ok (.sipush 2310, 3) := by decide +kernel
theorem dX9_tick_88 : decode cX9_tick 88 = .ok (.iaload, 1) := by decide +kernel
theorem dX9_tick_89 : decode cX9_tick 89 = .ok (.iastore, 1) := by decide +kernel
theorem dX9_tick_90 : decode cX9_tick 90 = .ok (.aload_n 0, 1) := by decide +kernel
theorem dX9_tick_91 : decode cX9_tick 91 = .ok (.getfield 7, 3) := by decide +kernel
theorem dX9_tick_94 : decode cX9_tick 94 = .ok (.bipush 23, 2) := by decide +kernel
theorem dX9_tick_96 : decode cX9_tick 96 = .ok (.iaload, 1) := by decide +kernel
theorem dX9_tick_97 : decode cX9_tick 97 = .ok (.aload_n 0, 1) := by decide +kernel
theorem dX9_tick_98 : decode cX9_tick 98 = .ok (.getfield 7, 3) := by decide +kernel
theorem dX9_tick_101 : decode cX9_tick 101 = .ok (.bipush 22, 2) := by decide +kernel
theorem dX9_tick_103 : decode cX9_tick 103 = .ok (.iaload, 1) := by decide +kernel
theorem dX9_tick_104 : decode cX9_tick 104 = .ok (.if_icmp .ge 63, 3) := by decide +kernel
theorem dX9_tick_107 : decode cX9_tick 107 = .ok (.aload_n 0, 1) := by decide +kernel
theorem dX9_tick_108 : decode cX9_tick 108 = .ok (.getfield 7, 3) := by decide +kernel
theorem dX9_tick_111 : decode cX9_tick 111 = .ok (.sipush 2054, 3) := by decide +kernel
theorem dX9_tick_114 : decode cX9_tick 114 = .ok (.aload_n 0, 1) := by decide +kernel
theorem dX9_tick_115 : decode cX9_tick 115 = .ok (.getfield 7, 3) := by decide +kernel
theorem dX9_tick_118 : decode cX9_tick 118 = .ok (.bipush 12, 2) := by decide +kernel
theorem dX9_tick_120 : decode cX9_tick 120 = .ok (.iaload, 1) := by decide +kernel
theorem dX9_tick_121 : decode cX9_tick 121 = .ok (.sipush 256, 3) := by decide +kernel
theorem dX9_tick_124 : decode cX9_tick 124 = .ok (.irem, 1) := by decide +kernel
theorem dX9_tick_125 : decode cX9_tick 125 = .ok (.iadd, 1) := by decide +kernel
theorem dX9_tick_126 : decode cX9_tick 126 = .ok (.aload_n 0, 1) := by decide +kernel
theorem dX9_tick_127 : decode cX9_tick 127 = .ok (.getfield 7, 3) := by decide +kernel
theorem dX9_tick_130 : decode cX9_tick 130 = .ok (.sipush 2342, 3) := by decide +kernel
theorem dX9_tick_133 : decode cX9_tick 133 = .ok (.aload_n 0, 1) := by decide +kernel
theorem dX9_tick_134 : decode cX9_tick 134 = .ok (.getfield 7, 3) := by decide +kernel
theorem dX9_tick_137 : decode cX9_tick 137 = .ok (.bipush 23, 2) := by decide +kernel
theorem dX9_tick_139 : decode cX9_tick 139 = .ok (.iaload, 1) := by decide +kernel
theorem dX9_tick_140 : decode cX9_tick 140 = .ok (.iadd, 1) := by decide +kernel
theorem dX9_tick_141 : decode cX9_tick 141 = .ok (.iaload, 1) := by decide +kernel
theorem dX9_tick_142 : decode cX9_tick 142 = .ok (.iastore, 1) := by decide +kernel
theorem dX9_tick_143 : decode cX9_tick 143 = .ok (.aload_n 0, 1) := by decide +kernel
theorem dX9_tick_144 : decode cX9_tick 144 = .ok (.getfield 7, 3) := by decide +kernel
theorem dX9_tick_147 : decode cX9_tick 147 = .ok (.bipush 12, 2) := by decide +kernel
theorem dX9_tick_149 : decode cX9_tick 149 = .ok (.dup2, 1) := by decide +kernel
theorem dX9_tick_150 : decode cX9_tick 150 = .ok (.iaload, 1) := by decide +kernel
theorem dX9_tick_151 : decode cX9_tick 151 = .ok (.iconst 1, 1) := by decide +kernel
theorem dX9_tick_152 : decode cX9_tick 152 = .ok (.iadd, 1) := by decide +kernel
theorem dX9_tick_153 : decode cX9_tick 153 = .ok (.iastore, 1) := by decide +kernel
theorem dX9_tick_154 : decode cX9_tick 154 = .ok (.aload_n 0, 1) := by decide +kernel
theorem dX9_tick_155 : decode cX9_tick 155 = .ok (.getfield 7, 3) := by decide +kernel
theorem dX9_tick_158 : decode cX9_tick 158 = .ok (.bipush 23, 2) := by decide +kernel
theorem dX9_tick_160 : decode cX9_tick 160 = .ok (.dup2, 1) := by decide +kernel
theorem dX9_tick_161 : decode cX9_tick 161 = .ok (.iaload, 1) := by decide +kernel
theorem dX9_tick_162 : decode cX9_tick 162 = .ok (.iconst 1, 1) := by decide +kernel
theorem dX9_tick_163 : decode cX9_tick 163 = .ok (.iadd, 1) := by decide +kernel
theorem dX9_tick_164 : decode cX9_tick 164 = .ok (.iastore, 1) := by decide +kernel
theorem dX9_tick_165 : decode cX9_tick 165 = .ok (.iconst 1, 1) := by decide +kernel
theorem dX9_tick_166 : decode cX9_tick 166 = .ok (.istore_n 1, 1) := by decide +kernel
theorem dX9_tick_167 : decode cX9_tick 167 = .ok (.aload_n 0, 1) := by decide +kernel
theorem dX9_tick_168 : decode cX9_tick 168 = .ok (.getfield 7, 3) := by decide +kernel
theorem dX9_tick_171 : decode cX9_tick 171 = .ok (.bipush 9, 2) := by decide +kernel
theorem dX9_tick_173 : decode cX9_tick 173 = .ok (.dup2, 1) := by decide +kernel
theorem dX9_tick_174 : decode cX9_tick 174 = .ok (.iaload, 1) := by decide +kernel
theorem dX9_tick_175 : decode cX9_tick 175 = .ok (.iconst 1, 1) := by decide +kernel
theorem dX9_tick_176 : decode cX9_tick 176 = .ok (.iadd, 1) := by decide +kernel
theorem dX9_tick_177 : decode cX9_tick 177 = .ok (.iastore, 1) := by decide +kernel
theorem dX9_tick_178 : decode cX9_tick 178 = .ok (.iload_n 1, 1) := by decide +kernel
theorem dX9_tick_179 : decode cX9_tick 179 = .ok (.ireturn, 1) := by decide +kernel
theorem dX9_advance_0 : decode cX9_advance 0 = .ok (.iload_n 1, 1) := by decide +kernel
theorem dX9_advance_1 : decode cX9_advance 1 = .ok (.iconst 1, 1) := by decide +kernel
theorem dX9_advance_2 : decode cX9_advance 2 = .ok (.sipush 500, 3) := by decide +kernel
theorem dX9_advance_5 : decode cX9_advance 5 = .ok (.invokestatic 35, 3) := by decide +kernel
theorem dX9_advance_8 : decode cX9_advance 8 = .ok (.ifCond .ne 7, 3) := by decide +kernel
theorem dX9_advance_11 : decode cX9_advance 11 = .ok (.sipush (-1001), 3) := by decide +kernel
theorem dX9_advance_14 : decode cX9_advance 14 = .ok (.ireturn, 1) := by decide +kernel
theorem dX9_advance_15 : decode cX9_advance 15 = .ok (.iconst 0, 1) := by decide +kernel
theorem dX9_advance_16 : decode cX9_advance 16 = .ok (.istore_n 2, 1) := by decide +kernel
theorem dX9_advance_17 : decode cX9_advance 17 = .ok (.iconst 0, 1) := by decide +kernel
theorem dX9_advance_18 : decode cX9_advance 18 = .ok (.istore_n 3, 1) := by decide +kernel
theorem dX9_advance_19 : decode cX9_advance 19 = .ok (.iload_n 3, 1) := by decide +kernel
theorem dX9_advance_20 : decode cX9_advance 20 = .ok (.iload_n 1, 1) := by decide +kernel
theorem dX9_advance_21 : decode cX9_advance 21 = .ok (.if_icmp .ge 16, 3) := by decide +kernel
theorem dX9_advance_24 : decode cX9_advance 24 = .ok (.iload_n 2, 1) := by decide +kernel
theorem dX9_advance_25 : decode cX9_advance 25 = .ok (.aload_n 0, 1) := by decide +kernel
theorem dX9_advance_26 : decode cX9_advance 26 = .ok (.invokevirtual 141, 3) := by decide +kernel
theorem dX9_advance_29 : decode cX9_advance 29 = .ok (.iadd, 1) := by decide +kernel
theorem dX9_advance_30 : decode cX9_advance 30 = .ok (.istore_n 2, 1) := by decide +kernel
theorem dX9_advance_31 : decode cX9_advance 31 = .ok (.iinc 3 1, 3) := by decide +kernel
theorem dX9_advance_34 : decode cX9_advance 34 = .ok (.goto (-15), 3) := by decide +kernel
theorem dX9_advance_37 : decode cX9_advance 37 = .ok (.iload_n 2, 1) := by decide +kernel
theorem dX9_advance_38 : decode cX9_advance 38 = .ok (.ireturn, 1) := by decide +kernel
theorem dX9_time_0 : decode cX9_time 0 = .ok (.aload_n 0, 1) := by decide +kernel
theorem dX9_time_1 : decode cX9_time 1 = .ok (.getfield 7, 3) := by decide +kernel
theorem dX9_time_4 : decode cX9_time 4 = .ok (.bipush 9, 2) := by decide +kernel
theorem dX9_time_6 : decode cX9_time 6 = .ok (.iaload, 1) := by decide +kernel
theorem dX9_time_7 : decode cX9_time 7 = .ok (.ireturn, 1) := by decide +kernel
theorem dX9_start_0 : decode cX9_start 0 = .ok (.aload_n 0, 1) := by decide +kernel
theorem dX9_start_1 : decode cX9_start 1 = .ok (.getfield 7, 3) := by decide +kernel
theorem dX9_start_4 : decode cX9_start 4 = .ok (.bipush 10, 2) := by decide +kernel
theorem dX9_start_6 : decode cX9_start 6 = .ok (.iaload, 1) := by decide +kernel
theorem dX9_start_7 : decode cX9_start 7 = .ok (.ifCond .ge 9, 3) := by decide +kernel
theorem dX9_start_10 : decode cX9_start 10 = .ok (.sipush (-1004), 3) := by decide +kernel
theorem dX9_start_13 : decode cX9_start 13 = .ok (.goto 10, 3) := by decide +kernel
theorem dX9_start_16 : decode cX9_start 16 = .ok (.aload_n 0, 1) := by decide +kernel
theorem dX9_start_17 : decode cX9_start 17 = .ok (.getfield 7, 3) := by decide +kernel
theorem dX9_start_20 : decode cX9_start 20 = .ok (.bipush 10, 2) := by decide +kernel
theorem dX9_start_22 : decode cX9_start 22 = .ok (.iaload, 1) := by decide +kernel
theorem dX9_start_23 : decode cX9_start 23 = .ok (.ireturn, 1) := by decide +kernel
theorem dX9_output_0 : decode cX9_output 0 = .ok (.iload_n 1, 1) := by decide +kernel
theorem dX9_output_1 : decode cX9_output 1 = .ok (.iconst 1, 1) := by decide +kernel
theorem dX9_output_2 : decode cX9_output 2 = .ok (.sipush 256, 3) := by decide +kernel
theorem dX9_output_5 : decode cX9_output 5 = .ok (.invokestatic 35, 3) := by decide +kernel
theorem dX9_output_8 : decode cX9_output 8 = .ok (.ifCond .ne 7, 3) := by decide +kernel
theorem dX9_output_11 : decode cX9_output 11 = .ok (.sipush (-1001), 3) := by decide +kernel
theorem dX9_output_14 : decode cX9_output 14 = .ok (.ireturn, 1) := by decide +kernel
theorem dX9_output_15 : decode cX9_output 15 = .ok (.iload_n 1, 1) := by decide +kernel
theorem dX9_output_16 : decode cX9_output 16 = .ok (.aload_n 0, 1) := by decide +kernel
theorem dX9_output_17 : decode cX9_output 17 = .ok (.getfield 7, 3) := by decide +kernel
theorem dX9_output_20 : decode cX9_output 20 = .ok (.bipush 12, 2) := by decide +kernel
theorem dX9_output_22 : decode cX9_output 22 = .ok (.iaload, 1) := by decide +kernel
theorem dX9_output_23 : decode cX9_output 23 = .ok (.if_icmp .le 9, 3) := by decide +kernel
theorem dX9_output_26 : decode cX9_output 26 = .ok (.sipush (-1004), 3) := by decide +kernel
theorem dX9_output_29 : decode cX9_output 29 = .ok (.goto 8, 3) := by decide +kernel
theorem dX9_output_32 : decode cX9_output 32 = .ok (.aload_n 0, 1) := by decide +kernel
theorem dX9_output_33 : decode cX9_output 33 = .ok (.iload_n 1, 1) := by decide +kernel
theorem dX9_output_34 : decode cX9_output 34 = .ok (.invokevirtual 123, 3) := by decide +kernel
theorem dX9_output_37 : decode cX9_output 37 = .ok (.ireturn, 1) := by decide +kernel
theorem dX9_outputs_0 : decode cX9_outputs 0 = .ok (.aload_n 0, 1) := by decide +kernel
theorem dX9_outputs_1 : decode cX9_outputs 1 = .ok (.getfield 7, 3) := by decide +kernel
theorem dX9_outputs_4 : decode cX9_outputs 4 = .ok (.bipush 12, 2) := by decide +kernel
theorem dX9_outputs_6 : decode cX9_outputs 6 = .ok (.iaload, 1) := by decide +kernel
theorem dX9_outputs_7 : decode cX9_outputs 7 = .ok (.ireturn, 1) := by decide +kernel
theorem dX9_left_0 : decode cX9_left 0 = .ok (.aload_n 0, 1) := by decide +kernel
theorem dX9_left_1 : decode cX9_left 1 = .ok (.getfield 7, 3) := by decide +kernel
theorem dX9_left_4 : decode cX9_left 4 = .ok (.bipush 22, 2) := by decide +kernel
theorem dX9_left_6 : decode cX9_left 6 = .ok (.iaload, 1) := by decide +kernel
theorem dX9_left_7 : decode cX9_left 7 = .ok (.aload_n 0, 1) := by decide +kernel
theorem dX9_left_8 : decode cX9_left 8 = .ok (.getfield 7, 3) := by decide +kernel
theorem dX9_left_11 : decode cX9_left 11 = .ok (.bipush 23, 2) := by decide +kernel
theorem dX9_left_13 : decode cX9_left 13 = .ok (.iaload, 1) := by decide +kernel
theorem dX9_left_14 : decode cX9_left 14 = .ok (.isub, 1) := by decide +kernel
theorem dX9_left_15 : decode cX9_left 15 = .ok (.ireturn, 1) := by decide +kernel
theorem dX9_next_0 : decode cX9_next 0 = .ok (.aload_n 0, 1) := by decide +kernel
theorem dX9_next_1 : decode cX9_next 1 = .ok (.getfield 7, 3) := by decide +kernel
theorem dX9_next_4 : decode cX9_next 4 = .ok (.bipush 11, 2) := by decide +kernel
theorem dX9_next_6 : decode cX9_next 6 = .ok (.iaload, 1) := by decide +kernel
theorem dX9_next_7 : decode cX9_next 7 = .ok (.sipush 999, 3) := by decide +kernel
theorem dX9_next_10 : decode cX9_next 10 = .ok (.if_icmp .le 9, 3) := by decide +kernel
theorem dX9_next_13 : decode cX9_next 13 = .ok (.sipush (-1004), 3) := by decide +kernel
theorem dX9_next_16 : decode cX9_next 16 = .ok (.goto 10, 3) := by decide +kernel
theorem dX9_next_19 : decode cX9_next 19 = .ok (.aload_n 0, 1) := by decide +kernel
theorem dX9_next_20 : decode cX9_next 20 = .ok (.getfield 7, 3) := by decide +kernel
theorem dX9_next_23 : decode cX9_next 23 = .ok (.bipush 11, 2) := by decide +kernel
theorem dX9_next_25 : decode cX9_next 25 = .ok (.iaload, 1) := by decide +kernel
theorem dX9_next_26 : decode cX9_next 26 = .ok (.ireturn, 1) := by decide +kernel
theorem dX9_kind_0 : decode cX9_kind 0 = .ok (.iload_n 1, 1) := by decide +kernel
theorem dX9_kind_1 : decode cX9_kind 1 = .ok (.iconst 1, 1) := by decide +kernel
theorem dX9_kind_2 : decode cX9_kind 2 = .ok (.bipush 32, 2) := by decide +kernel
theorem dX9_kind_4 : decode cX9_kind 4 = .ok (.invokestatic 35, 3) := by decide +kernel
theorem dX9_kind_7 : decode cX9_kind 7 = .ok (.ifCond .ne 7, 3) := by decide +kernel
theorem dX9_kind_10 : decode cX9_kind 10 = .ok (.sipush (-1001), 3) := by decide +kernel
theorem dX9_kind_13 : decode cX9_kind 13 = .ok (.ireturn, 1) := by decide +kernel
theorem dX9_kind_14 : decode cX9_kind 14 = .ok (.iload_n 1, 1) := by decide +kernel
theorem dX9_kind_15 : decode cX9_kind 15 = .ok (.aload_n 0, 1) := by decide +kernel
theorem dX9_kind_16 : decode cX9_kind 16 = .ok (.getfield 7, 3) := by decide +kernel
theorem dX9_kind_19 : decode cX9_kind 19 = .ok (.bipush 11, 2) := by decide +kernel
theorem dX9_kind_21 : decode cX9_kind 21 = .ok (.iaload, 1) := by decide +kernel
theorem dX9_kind_22 : decode cX9_kind 22 = .ok (.if_icmp .le 9, 3) := by decide +kernel
theorem dX9_kind_25 : decode cX9_kind 25 = .ok (.sipush (-1004), 3) := by decide +kernel
theorem dX9_kind_28 : decode cX9_kind 28 = .ok (.goto 15, 3) := by decide +kernel
theorem dX9_kind_31 : decode cX9_kind 31 = .ok (.aload_n 0, 1) := by decide +kernel
theorem dX9_kind_32 : decode cX9_kind 32 = .ok (.getfield 7, 3) := by decide +kernel
theorem dX9_kind_35 : decode cX9_kind 35 = .ok (.sipush 2310, 3) := by decide +kernel
theorem dX9_kind_38 : decode cX9_kind 38 = .ok (.iload_n 1, 1) := by decide +kernel
theorem dX9_kind_39 : decode cX9_kind 39 = .ok (.iadd, 1) := by decide +kernel
theorem dX9_kind_40 : decode cX9_kind 40 = .ok (.iconst 1, 1) := by decide +kernel
theorem dX9_kind_41 : decode cX9_kind 41 = .ok (.isub, 1) := by decide +kernel
theorem dX9_kind_42 : decode cX9_kind 42 = .ok (.iaload, 1) := by decide +kernel
theorem dX9_kind_43 : decode cX9_kind 43 = .ok (.ireturn, 1) := by decide +kernel
theorem dX9_state_0 : decode cX9_state 0 = .ok (.iload_n 1, 1) := by decide +kernel
theorem dX9_state_1 : decode cX9_state 1 = .ok (.invokestatic 84, 3) := by decide +kernel
theorem dX9_state_4 : decode cX9_state 4 = .ok (.ifCond .eq 15, 3) := by decide +kernel
theorem dX9_state_7 : decode cX9_state 7 = .ok (.aload_n 0, 1) := by decide +kernel
theorem dX9_state_8 : decode cX9_state 8 = .ok (.getfield 7, 3) := by decide +kernel
theorem dX9_state_11 : decode cX9_state 11 = .ok (.bipush 30, 2) := by decide +kernel
theorem dX9_state_13 : decode cX9_state 13 = .ok (.iload_n 1, 1) := by decide +kernel
theorem dX9_state_14 : decode cX9_state 14 = .ok (.iadd, 1) := by decide +kernel
theorem dX9_state_15 : decode cX9_state 15 = .ok (.iaload, 1) := by decide +kernel
theorem dX9_state_16 : decode cX9_state 16 = .ok (.goto 6, 3) := by decide +kernel
theorem dX9_state_19 : decode cX9_state 19 = .ok (.sipush (-1001), 3) := by decide +kernel
theorem dX9_state_22 : decode cX9_state 22 = .ok (.ireturn, 1) := by decide +kernel
theorem dX9_sample_0 : decode cX9_sample 0 = .ok (.iload_n 1, 1) := by decide +kernel
theorem dX9_sample_1 : decode cX9_sample 1 = .ok (.invokestatic 84, 3) := by decide +kernel
theorem dX9_sample_4 : decode cX9_sample 4 = .ok (.ifCond .eq 28, 3) := by decide +kernel
theorem dX9_sample_7 : decode cX9_sample 7 = .ok (.iload_n 2, 1) := by decide +kernel
theorem dX9_sample_8 : decode cX9_sample 8 = .ok (.iconst 0, 1) := by decide +kernel
theorem dX9_sample_9 : decode cX9_sample 9 = .ok (.aload_n 0, 1) := by decide +kernel
theorem dX9_sample_10 : decode cX9_sample 10 = .ok (.getfield 7, 3) := by decide +kernel
theorem dX9_sample_13 : decode cX9_sample 13 = .ok (.iconst 0, 1) := by decide +kernel
theorem dX9_sample_14 : decode cX9_sample 14 = .ok (.iaload, 1) := by decide +kernel
theorem dX9_sample_15 : decode cX9_sample 15 = .ok (.iconst 1, 1) := by decide +kernel
theorem dX9_sample_16 : decode cX9_sample 16 = .ok (.isub, 1) := by decide +kernel
theorem dX9_sample_17 : decode cX9_sample 17 = .ok (.invokestatic 35, 3) := by decide +kernel
theorem dX9_sample_20 : decode cX9_sample 20 = .ok (.ifCond .eq 12, 3) := by decide +kernel
theorem dX9_sample_23 : decode cX9_sample 23 = .ok (.aload_n 0, 1) := by decide +kernel
theorem dX9_sample_24 : decode cX9_sample 24 = .ok (.iload_n 1, 1) := by decide +kernel
theorem dX9_sample_25 : decode cX9_sample 25 = .ok (.iload_n 2, 1) := by decide +kernel
theorem dX9_sample_26 : decode cX9_sample 26 = .ok (.invokevirtual 104, 3) := by decide +kernel
theorem dX9_sample_29 : decode cX9_sample 29 = .ok (.goto 6, 3) := by decide +kernel
theorem dX9_sample_32 : decode cX9_sample 32 = .ok (.sipush (-1001), 3) := by decide +kernel
theorem dX9_sample_35 : decode cX9_sample 35 = .ok (.ireturn, 1) := by decide +kernel
theorem dX9_missing_0 : decode cX9_missing 0 = .ok (.aload_n 0, 1) := by decide +kernel
theorem dX9_missing_1 : decode cX9_missing 1 = .ok (.iload_n 1, 1) := by decide +kernel
theorem dX9_missing_2 : decode cX9_missing 2 = .ok (.iload_n 2, 1) := by decide +kernel
theorem dX9_missing_3 : decode cX9_missing 3 = .ok (.iload_n 3, 1) := by decide +kernel
theorem dX9_missing_4 : decode cX9_missing 4 = .ok (.invokevirtual 91, 3) := by decide +kernel
theorem dX9_missing_7 : decode cX9_missing 7 = .ok (.ifCond .eq 13, 3) := by decide +kernel
theorem dX9_missing_10 : decode cX9_missing 10 = .ok (.aload_n 0, 1) := by decide +kernel
theorem dX9_missing_11 : decode cX9_missing 11 = .ok (.iload_n 1, 1) := by decide +kernel
theorem dX9_missing_12 : decode cX9_missing 12 = .ok (.iload_n 2, 1) := by decide +kernel
theorem dX9_missing_13 : decode cX9_missing 13 = .ok (.iload_n 3, 1) := by decide +kernel
theorem dX9_missing_14 : decode cX9_missing 14 = .ok (.invokevirtual 63, 3) := by decide +kernel
theorem dX9_missing_17 : decode cX9_missing 17 = .ok (.goto 6, 3) := by decide +kernel
theorem dX9_missing_20 : decode cX9_missing 20 = .ok (.sipush (-1001), 3) := by decide +kernel
theorem dX9_missing_23 : decode cX9_missing 23 = .ok (.ireturn, 1) := by decide +kernel
theorem dX9_unrestorable_0 : decode cX9_unrestorable 0 = .ok (.iload_n 1, 1) := by decide +kernel
theorem dX9_unrestorable_1 : decode cX9_unrestorable 1 = .ok (.iconst 0, 1) := by decide +kernel
theorem dX9_unrestorable_2 : decode cX9_unrestorable 2 = .ok (.sipush 999, 3) := by decide +kernel
theorem dX9_unrestorable_5 : decode cX9_unrestorable 5 = .ok (.aload_n 0, 1) := by decide +kernel
theorem dX9_unrestorable_6 : decode cX9_unrestorable 6 = .ok (.invokevirtual 47, 3) := by decide +kernel
theorem dX9_unrestorable_9 : decode cX9_unrestorable 9 = .ok (.idiv, 1) := by decide +kernel
theorem dX9_unrestorable_10 : decode cX9_unrestorable 10 = .ok (.invokestatic 35, 3) := by decide +kernel
theorem dX9_unrestorable_13 : decode cX9_unrestorable 13 = .ok (.ifCond .ne 7, 3) := by decide +kernel
theorem dX9_unrestorable_16 : decode cX9_unrestorable 16 = .ok (.sipush (-1001), 3) := by decide +kernel
theorem dX9_unrestorable_19 : decode cX9_unrestorable 19 = .ok (.ireturn, 1) := by decide +kernel
theorem dX9_unrestorable_20 : decode cX9_unrestorable 20 = .ok (.aload_n 0, 1) := by decide +kernel
theorem dX9_unrestorable_21 : decode cX9_unrestorable 21 = .ok (.invokevirtual 144, 3) := by decide +kernel
theorem dX9_unrestorable_24 : decode cX9_unrestorable 24 = .ok (.aload_n 0, 1) := by decide +kernel
theorem dX9_unrestorable_25 : decode cX9_unrestorable 25 = .ok (.iload_n 1, 1) := by decide +kernel
theorem dX9_unrestorable_26 : decode cX9_unrestorable 26 = .ok (.iconst 1, 1) := by decide +kernel
theorem dX9_unrestorable_27 : decode cX9_unrestorable 27 = .ok (.invokevirtual 80, 3) := by decide +kernel
theorem dX9_unrestorable_30 : decode cX9_unrestorable 30 = .ok (.istore_n 2, 1) := by decide +kernel
theorem dX9_unrestorable_31 : decode cX9_unrestorable 31 = .ok (.iconst 0, 1) := by decide +kernel
theorem dX9_unrestorable_32 : decode cX9_unrestorable 32 = .ok (.istore_n 3, 1) := by decide +kernel
theorem dX9_unrestorable_33 : decode cX9_unrestorable 33 = .ok (.iconst 0, 1) := by decide +kernel
theorem dX9_unrestorable_34 : decode cX9_unrestorable 34 = .ok (.istore 4, 2) := by decide +kernel
theorem dX9_unrestorable_36 : decode cX9_unrestorable 36 = .ok (.iload 4, 2) := by decide +kernel
theorem dX9_unrestorable_38 : decode cX9_unrestorable 38 = .ok (.aload_n 0, 1) := by decide +kernel
theorem dX9_unrestorable_39 : decode cX9_unrestorable 39 = .ok (.invokevirtual 47, 3) := by decide +kernel
theorem dX9_unrestorable_42 : decode cX9_unrestorable 42 = .ok (.if_icmp .ge 33, 3) := by decide +kernel
theorem dX9_unrestorable_45 : decode cX9_unrestorable 45 = .ok (.iload_n 3, 1) := by decide +kernel
theorem dX9_unrestorable_46 : decode cX9_unrestorable 46 = .ok (.aload_n 0, 1) := by decide +kernel
theorem dX9_unrestorable_47 : decode cX9_unrestorable 47 = .ok (.aload_n 0, 1) := by decide +kernel
theorem dX9_unrestorable_48 : decode cX9_unrestorable 48 = .ok (.invokevirtual 47, 3) := by decide +kernel
theorem dX9_unrestorable_51 : decode cX9_unrestorable 51 = .ok (.iload_n 1, 1) := by decide +kernel
theorem dX9_unrestorable_52 : decode cX9_unrestorable 52 = .ok (.imul, 1) := by decide +kernel
theorem dX9_unrestorable_53 : decode cX9_unrestorable 53 = .ok (.iload 4, 2) := by decide +kernel
theorem dX9_unrestorable_55 : decode cX9_unrestorable 55 = .ok (.iadd, 1) := by decide +kernel
theorem dX9_unrestorable_56 : decode cX9_unrestorable 56 = .ok (.invokevirtual 59, 3) := by decide +kernel
theorem dX9_unrestorable_59 : decode cX9_unrestorable 59 = .ok (.ifCond .eq 7, 3) := by decide +kernel
theorem dX9_unrestorable_62 : decode cX9_unrestorable 62 = .ok (.iconst 0, 1) := by decide +kernel
theorem dX9_unrestorable_63 : decode cX9_unrestorable 63 = .ok (.goto 4, 3) := by decide +kernel
theorem dX9_unrestorable_66 : decode cX9_unrestorable 66 = .ok (.iconst 1, 1) := by decide +kernel
theorem dX9_unrestorable_67 : decode cX9_unrestorable 67 = .ok (.iadd, 1) := by decide +kernel
theorem dX9_unrestorable_68 : decode cX9_unrestorable 68 = .ok (.istore_n 3, 1) := by decide +kernel
theorem dX9_unrestorable_69 : decode cX9_unrestorable 69 = .ok (.iinc 4 1, 3) := by decide +kernel
theorem dX9_unrestorable_72 : decode cX9_unrestorable 72 = .ok (.goto (-36), 3) := by decide +kernel
theorem dX9_unrestorable_75 : decode cX9_unrestorable 75 = .ok (.aload_n 0, 1) := by decide +kernel
theorem dX9_unrestorable_76 : decode cX9_unrestorable 76 = .ok (.invokevirtual 147, 3) := by decide +kernel
theorem dX9_unrestorable_79 : decode cX9_unrestorable 79 = .ok (.iload_n 3, 1) := by decide +kernel
theorem dX9_unrestorable_80 : decode cX9_unrestorable 80 = .ok (.ireturn, 1) := by decide +kernel
theorem dX9_paritySample_0 : decode cX9_paritySample 0 = .ok (.aload_n 0, 1) := by decide +kernel
theorem dX9_paritySample_1 : decode cX9_paritySample 1 = .ok (.iload_n 1, 1) := by decide +kernel
theorem dX9_paritySample_2 : decode cX9_paritySample 2 = .ok (.iload_n 2, 1) := by decide +kernel
theorem dX9_paritySample_3 : decode cX9_paritySample 3 = .ok (.iload_n 3, 1) := by decide +kernel
theorem dX9_paritySample_4 : decode cX9_paritySample 4 = .ok (.invokevirtual 91, 3) := by decide +kernel
theorem dX9_paritySample_7 : decode cX9_paritySample 7 = .ok (.ifCond .eq 20, 3) := by decide +kernel
theorem dX9_paritySample_10 : decode cX9_paritySample 10 = .ok (.iload 4, 2) := by decide +kernel
theorem dX9_paritySample_12 : decode cX9_paritySample 12 = .ok (.iconst 0, 1) := by decide +kernel
theorem dX9_paritySample_13 : decode cX9_paritySample 13 = .ok (.aload_n 0, 1) := by decide +kernel
theorem dX9_paritySample_14 : decode cX9_paritySample 14 = .ok (.getfield 7, 3) := by decide +kernel
theorem dX9_paritySample_17 : decode cX9_paritySample 17 = .ok (.iconst 0, 1) := by decide +kernel
theorem dX9_paritySample_18 : decode cX9_paritySample 18 = .ok (.iaload, 1) := by decide +kernel
theorem dX9_paritySample_19 : decode cX9_paritySample 19 = .ok (.iconst 1, 1) := by decide +kernel
theorem dX9_paritySample_20 : decode cX9_paritySample 20 = .ok (.isub, 1) := by decide +kernel
theorem dX9_paritySample_21 : decode cX9_paritySample 21 = .ok (.invokestatic 35, 3) := by decide +kernel
theorem dX9_paritySample_24 : decode cX9_paritySample 24 = .ok (.ifCond .ne 7, 3) := by decide +kernel
theorem dX9_paritySample_27 : decode cX9_paritySample 27 = .ok (.sipush (-1001), 3) := by decide +kernel
theorem dX9_paritySample_30 : decode cX9_paritySample 30 = .ok (.ireturn, 1) := by decide +kernel
theorem dX9_paritySample_31 : decode cX9_paritySample 31 = .ok (.iconst 0, 1) := by decide +kernel
theorem dX9_paritySample_32 : decode cX9_paritySample 32 = .ok (.istore 5, 2) := by decide +kernel
theorem dX9_paritySample_34 : decode cX9_paritySample 34 = .ok (.iconst 0, 1) := by decide +kernel
theorem dX9_paritySample_35 : decode cX9_paritySample 35 = .ok (.istore 6, 2) := by decide +kernel
theorem dX9_paritySample_37 : decode cX9_paritySample 37 = .ok (.iload 6, 2) := by decide +kernel
theorem dX9_paritySample_39 : decode cX9_paritySample 39 = .ok (.aload_n 0, 1) := by decide +kernel
theorem dX9_paritySample_40 : decode cX9_paritySample 40 = .ok (.iload_n 1, 1) := by decide +kernel
theorem dX9_paritySample_41 : decode cX9_paritySample 41 = .ok (.invokevirtual 51, 3) := by decide +kernel
theorem dX9_paritySample_44 : decode cX9_paritySample 44 = .ok (.if_icmp .ge 49, 3) := by decide +kernel
theorem dX9_paritySample_47 : decode cX9_paritySample 47 = .ok (.aload_n 0, 1) := by decide +kernel
theorem dX9_paritySample_48 : decode cX9_paritySample 48 = .ok (.iload_n 1, 1) := by decide +kernel
theorem dX9_paritySample_49 : decode cX9_paritySample 49 = .ok (.iload_n 2, 1) := by decide +kernel
theorem dX9_paritySample_50 : decode cX9_paritySample 50 = .ok (.iload_n 3, 1) := by decide +kernel
theorem dX9_paritySample_51 : decode cX9_paritySample 51 = .ok (.iload 6, 2) := by decide +kernel
theorem dX9_paritySample_53 : decode cX9_paritySample 53 = .ok (.invokevirtual 55, 3) := by decide +kernel
theorem dX9_paritySample_56 : decode cX9_paritySample 56 = .ok (.istore 7, 2) := by decide +kernel
theorem dX9_paritySample_58 : decode cX9_paritySample 58 = .ok (.iload 5, 2) := by decide +kernel
theorem dX9_paritySample_60 : decode cX9_paritySample 60 = .ok (.iload 7, 2) := by decide +kernel
theorem dX9_paritySample_62 : decode cX9_paritySample 62 = .ok (.sipush 999, 3) := by decide +kernel
theorem dX9_paritySample_65 : decode cX9_paritySample 65 = .ok (.if_icmp .le 7, 3) := by decide +kernel
theorem dX9_paritySample_68 : decode cX9_paritySample 68 = .ok (.iconst 0, 1) := by decide +kernel
theorem dX9_paritySample_69 : decode cX9_paritySample 69 = .ok (.goto 15, 3) := by decide +kernel
theorem dX9_paritySample_72 : decode cX9_paritySample 72 = .ok (.aload_n 0, 1) := by decide +kernel
theorem dX9_paritySample_73 : decode cX9_paritySample 73 = .ok (.iload 7, 2) := by decide +kernel
theorem dX9_paritySample_75 : decode cX9_paritySample 75 = .ok (.iload 4, 2) := by decide +kernel
theorem dX9_paritySample_77 : decode cX9_paritySample 77 = .ok (.invokevirtual 104, 3) := by decide +kernel
theorem dX9_paritySample_80 : decode cX9_paritySample 80 = .ok (.sipush 128, 3) := by decide +kernel
theorem dX9_paritySample_83 : decode cX9_paritySample 83 = .ok (.iadd, 1) := by decide +kernel
theorem dX9_paritySample_84 : decode cX9_paritySample 84 = .ok (.ixor, 1) := by decide +kernel
theorem dX9_paritySample_85 : decode cX9_paritySample 85 = .ok (.istore 5, 2) := by decide +kernel
theorem dX9_paritySample_87 : decode cX9_paritySample 87 = .ok (.iinc 6 1, 3) := by decide +kernel
theorem dX9_paritySample_90 : decode cX9_paritySample 90 = .ok (.goto (-53), 3) := by decide +kernel
theorem dX9_paritySample_93 : decode cX9_paritySample 93 = .ok (.iload 5, 2) := by decide +kernel
theorem dX9_paritySample_95 : decode cX9_paritySample 95 = .ok (.ireturn, 1) := by decide +kernel
theorem dX9_transits_0 : decode cX9_transits 0 = .ok (.aload_n 0, 1) := by decide +kernel
theorem dX9_transits_1 : decode cX9_transits 1 = .ok (.getfield 7, 3) := by decide +kernel
theorem dX9_transits_4 : decode cX9_transits 4 = .ok (.bipush 24, 2) := by decide +kernel
theorem dX9_transits_6 : decode cX9_transits 6 = .ok (.iaload, 1) := by decide +kernel
theorem dX9_transits_7 : decode cX9_transits 7 = .ok (.ireturn, 1) := by decide +kernel
theorem dX9_transit_0 : decode cX9_transit 0 = .ok (.iload_n 1, 1) := by decide +kernel
theorem dX9_transit_1 : decode cX9_transit 1 = .ok (.iconst 0, 1) := by decide +kernel
theorem dX9_transit_2 : decode cX9_transit 2 = .ok (.aload_n 0, 1) := by decide +kernel
theorem dX9_transit_3 : decode cX9_transit 3 = .ok (.getfield 7, 3) := by decide +kernel
theorem dX9_transit_6 : decode cX9_transit 6 = .ok (.bipush 24, 2) := by decide +kernel
theorem dX9_transit_8 : decode cX9_transit 8 = .ok (.iaload, 1) := by decide +kernel
theorem dX9_transit_9 : decode cX9_transit 9 = .ok (.iconst 1, 1) := by decide +kernel
theorem dX9_transit_10 : decode cX9_transit 10 = .ok (.isub, 1) := by decide +kernel
theorem dX9_transit_11 : decode cX9_transit 11 = .ok (.invokestatic 35, 3) := by decide +kernel
theorem dX9_transit_14 : decode cX9_transit 14 = .ok (.ifCond .ne 7, 3) := by decide +kernel
theorem dX9_transit_17 : decode cX9_transit 17 = .ok (.sipush (-1001), 3) := by decide +kernel
theorem dX9_transit_20 : decode cX9_transit 20 = .ok (.ireturn, 1) := by decide +kernel
theorem dX9_transit_21 : decode cX9_transit 21 = .ok (.aload_n 0, 1) := by decide +kernel
theorem dX9_transit_22 : decode cX9_transit 22 = .ok (.invokevirtual 98, 3) := by decide +kernel
theorem dX9_transit_25 : decode cX9_transit 25 = .ok (.aload_n 0, 1) := by decide +kernel
theorem dX9_transit_26 : decode cX9_transit 26 = .ok (.getfield 26, 3) := by decide +kernel
theorem dX9_transit_29 : decode cX9_transit 29 = .ok (.iload_n 1, 1) := by decide +kernel
theorem dX9_transit_30 : decode cX9_transit 30 = .ok (.iaload, 1) := by decide +kernel
theorem dX9_transit_31 : decode cX9_transit 31 = .ok (.sipush (-999), 3) := by decide +kernel
theorem dX9_transit_34 : decode cX9_transit 34 = .ok (.if_icmp .ge 9, 3) := by decide +kernel
theorem dX9_transit_37 : decode cX9_transit 37 = .ok (.sipush (-999), 3) := by decide +kernel
theorem dX9_transit_40 : decode cX9_transit 40 = .ok (.goto 9, 3) := by decide +kernel
theorem dX9_transit_43 : decode cX9_transit 43 = .ok (.aload_n 0, 1) := by decide +kernel
theorem dX9_transit_44 : decode cX9_transit 44 = .ok (.getfield 26, 3) := by decide +kernel
theorem dX9_transit_47 : decode cX9_transit 47 = .ok (.iload_n 1, 1) := by decide +kernel
theorem dX9_transit_48 : decode cX9_transit 48 = .ok (.iaload, 1) := by decide +kernel
theorem dX9_transit_49 : decode cX9_transit 49 = .ok (.ireturn, 1) := by decide +kernel
theorem dX9_target_0 : decode cX9_target 0 = .ok (.aload_n 0, 1) := by decide +kernel
theorem dX9_target_1 : decode cX9_target 1 = .ok (.invokevirtual 110, 3) := by decide +kernel
theorem dX9_target_4 : decode cX9_target 4 = .ok (.ireturn, 1) := by decide +kernel
theorem dX9_level_0 : decode cX9_level 0 = .ok (.aload_n 0, 1) := by decide +kernel
theorem dX9_level_1 : decode cX9_level 1 = .ok (.getfield 7, 3) := by decide +kernel
theorem dX9_level_4 : decode cX9_level 4 = .ok (.bipush 11, 2) := by decide +kernel
theorem dX9_level_6 : decode cX9_level 6 = .ok (.iaload, 1) := by decide +kernel
theorem dX9_level_7 : decode cX9_level 7 = .ok (.sipush 999, 3) := by decide +kernel
theorem dX9_level_10 : decode cX9_level 10 = .ok (.if_icmp .le 7, 3) := by decide +kernel
theorem dX9_level_13 : decode cX9_level 13 = .ok (.iconst 0, 1) := by decide +kernel
theorem dX9_level_14 : decode cX9_level 14 = .ok (.goto 14, 3) := by decide +kernel
theorem dX9_level_17 : decode cX9_level 17 = .ok (.aload_n 0, 1) := by decide +kernel
theorem dX9_level_18 : decode cX9_level 18 = .ok (.aload_n 0, 1) := by decide +kernel
theorem dX9_level_19 : decode cX9_level 19 = .ok (.getfield 7, 3) := by decide +kernel
theorem dX9_level_22 : decode cX9_level 22 = .ok (.bipush 11, 2) := by decide +kernel
theorem dX9_level_24 : decode cX9_level 24 = .ok (.iaload, 1) := by decide +kernel
theorem dX9_level_25 : decode cX9_level 25 = .ok (.invokevirtual 107, 3) := by decide +kernel
theorem dX9_level_28 : decode cX9_level 28 = .ok (.ireturn, 1) := by decide +kernel
theorem dX9_taken_0 : decode cX9_taken 0 = .ok (.iload_n 1, 1) := by decide +kernel
theorem dX9_taken_1 : decode cX9_taken 1 = .ok (.iconst 1, 1) := by decide +kernel
theorem dX9_taken_2 : decode cX9_taken 2 = .ok (.iconst 3, 1) := by decide +kernel
theorem dX9_taken_3 : decode cX9_taken 3 = .ok (.invokestatic 35, 3) := by decide +kernel
theorem dX9_taken_6 : decode cX9_taken 6 = .ok (.ifCond .eq 15, 3) := by decide +kernel
theorem dX9_taken_9 : decode cX9_taken 9 = .ok (.aload_n 0, 1) := by decide +kernel
theorem dX9_taken_10 : decode cX9_taken 10 = .ok (.getfield 7, 3) := by decide +kernel
theorem dX9_taken_13 : decode cX9_taken 13 = .ok (.bipush 18, 2) := by decide +kernel
theorem dX9_taken_15 : decode cX9_taken 15 = .ok (.iload_n 1, 1) := by decide +kernel
theorem dX9_taken_16 : decode cX9_taken 16 = .ok (.iadd, 1) := by decide +kernel
theorem dX9_taken_17 : decode cX9_taken 17 = .ok (.iaload, 1) := by decide +kernel
theorem dX9_taken_18 : decode cX9_taken 18 = .ok (.goto 6, 3) := by decide +kernel
theorem dX9_taken_21 : decode cX9_taken 21 = .ok (.sipush (-1001), 3) := by decide +kernel
theorem dX9_taken_24 : decode cX9_taken 24 = .ok (.ireturn, 1) := by decide +kernel
theorem dX9_stretched_0 : decode cX9_stretched 0 = .ok (.aload_n 0, 1) := by decide +kernel
theorem dX9_stretched_1 : decode cX9_stretched 1 = .ok (.getfield 7, 3) := by decide +kernel
theorem dX9_stretched_4 : decode cX9_stretched 4 = .ok (.bipush 15, 2) := by decide +kernel
theorem dX9_stretched_6 : decode cX9_stretched 6 = .ok (.iaload, 1) := by decide +kernel
theorem dX9_stretched_7 : decode cX9_stretched 7 = .ok (.ireturn, 1) := by decide +kernel
theorem dX9_compressed_0 : decode cX9_compressed 0 = .ok (.aload_n 0, 1) := by decide +kernel
theorem dX9_compressed_1 : decode cX9_compressed 1 = .ok (.getfield 7, 3) := by decide +kernel
theorem dX9_compressed_4 : decode cX9_compressed 4 = .ok (.bipush 16, 2) := by decide +kernel
theorem dX9_compressed_6 : decode cX9_compressed 6 = .ok (.iaload, 1) := by decide +kernel
theorem dX9_compressed_7 : decode cX9_compressed 7 = .ok (.ireturn, 1) := by decide +kernel
theorem dX9_late_0 : decode cX9_late 0 = .ok (.aload_n 0, 1) := by decide +kernel
theorem dX9_late_1 : decode cX9_late 1 = .ok (.getfield 7, 3) := by decide +kernel
theorem dX9_late_4 : decode cX9_late 4 = .ok (.bipush 17, 2) := by decide +kernel
theorem dX9_late_6 : decode cX9_late 6 = .ok (.iaload, 1) := by decide +kernel
theorem dX9_late_7 : decode cX9_late 7 = .ok (.ireturn, 1) := by decide +kernel
theorem dX9_duplicates_0 : decode cX9_duplicates 0 = .ok (.aload_n 0, 1) := by decide +kernel
theorem dX9_duplicates_1 : decode cX9_duplicates 1 = .ok (.getfield 7, 3) := by decide +kernel
theorem dX9_duplicates_4 : decode cX9_duplicates 4 = .ok (.bipush 18, 2) := by decide +kernel
theorem dX9_duplicates_6 : decode cX9_duplicates 6 = .ok (.iaload, 1) := by decide +kernel
theorem dX9_duplicates_7 : decode cX9_duplicates 7 = .ok (.ireturn, 1) := by decide +kernel
theorem dX9_loss_0 : decode cX9_loss 0 = .ok (.aload_n 0, 1) := by decide +kernel
theorem dX9_loss_1 : decode cX9_loss 1 = .ok (.getfield 7, 3) := by decide +kernel
theorem dX9_loss_4 : decode cX9_loss 4 = .ok (.bipush 21, 2) := by decide +kernel
theorem dX9_loss_6 : decode cX9_loss 6 = .ok (.iaload, 1) := by decide +kernel
theorem dX9_loss_7 : decode cX9_loss 7 = .ok (.istore_n 2, 1) := by decide +kernel
theorem dX9_loss_8 : decode cX9_loss 8 = .ok (.iload_n 2, 1) := by decide +kernel
theorem dX9_loss_9 : decode cX9_loss 9 = .ok (.ifCond .ne 13, 3) := by decide +kernel
theorem dX9_loss_12 : decode cX9_loss 12 = .ok (.iload_n 1, 1) := by decide +kernel
theorem dX9_loss_13 : decode cX9_loss 13 = .ok (.ifCond .eq 7, 3) := by decide +kernel
theorem dX9_loss_16 : decode cX9_loss 16 = .ok (.iconst 1, 1) := by decide +kernel
theorem dX9_loss_17 : decode cX9_loss 17 = .ok (.goto 4, 3) := by decide +kernel
theorem dX9_loss_20 : decode cX9_loss 20 = .ok (.iconst 0, 1) := by decide +kernel
theorem dX9_loss_21 : decode cX9_loss 21 = .ok (.ireturn, 1) := by decide +kernel
theorem dX9_loss_22 : decode cX9_loss 22 = .ok (.iload_n 2, 1) := by decide +kernel
theorem dX9_loss_23 : decode cX9_loss 23 = .ok (.istore_n 3, 1) := by decide +kernel
theorem dX9_loss_24 : decode cX9_loss 24 = .ok (.aload_n 0, 1) := by decide +kernel
theorem dX9_loss_25 : decode cX9_loss 25 = .ok (.getfield 7, 3) := by decide +kernel
theorem dX9_loss_28 : decode cX9_loss 28 = .ok (.bipush 11, 2) := by decide +kernel
theorem dX9_loss_30 : decode cX9_loss 30 = .ok (.iaload, 1) := by decide +kernel
theorem dX9_loss_31 : decode cX9_loss 31 = .ok (.istore 4, 2) := by decide +kernel
theorem dX9_loss_33 : decode cX9_loss 33 = .ok (.iload 4, 2) := by decide +kernel
theorem dX9_loss_35 : decode cX9_loss 35 = .ok (.ifCond .eq 19, 3) := by decide +kernel
theorem dX9_loss_38 : decode cX9_loss 38 = .ok (.iload_n 3, 1) := by decide +kernel
theorem dX9_loss_39 : decode cX9_loss 39 = .ok (.iload 4, 2) := by decide +kernel
theorem dX9_loss_41 : decode cX9_loss 41 = .ok (.irem, 1) := by decide +kernel
theorem dX9_loss_42 : decode cX9_loss 42 = .ok (.istore 5, 2) := by decide +kernel
theorem dX9_loss_44 : decode cX9_loss 44 = .ok (.iload 4, 2) := by decide +kernel
theorem dX9_loss_46 : decode cX9_loss 46 = .ok (.istore_n 3, 1) := by decide +kernel
theorem dX9_loss_47 : decode cX9_loss 47 = .ok (.iload 5, 2) := by decide +kernel
theorem dX9_loss_49 : decode cX9_loss 49 = .ok (.istore 4, 2) := by decide +kernel
theorem dX9_loss_51 : decode cX9_loss 51 = .ok (.goto (-18), 3) := by decide +kernel
theorem dX9_loss_54 : decode cX9_loss 54 = .ok (.iload_n 1, 1) := by decide +kernel
theorem dX9_loss_55 : decode cX9_loss 55 = .ok (.ifCond .eq 15, 3) := by decide +kernel
theorem dX9_loss_58 : decode cX9_loss 58 = .ok (.aload_n 0, 1) := by decide +kernel
theorem dX9_loss_59 : decode cX9_loss 59 = .ok (.getfield 7, 3) := by decide +kernel
theorem dX9_loss_62 : decode cX9_loss 62 = .ok (.bipush 11, 2) := by decide +kernel
theorem dX9_loss_64 : decode cX9_loss 64 = .ok (.iaload, 1) := by decide +kernel
theorem dX9_loss_65 : decode cX9_loss 65 = .ok (.iload_n 3, 1) := by decide +kernel
theorem dX9_loss_66 : decode cX9_loss 66 = .ok (.idiv, 1) := by decide +kernel
theorem dX9_loss_67 : decode cX9_loss 67 = .ok (.goto 6, 3) := by decide +kernel
theorem dX9_loss_70 : decode cX9_loss 70 = .ok (.iload_n 2, 1) := by decide +kernel
theorem dX9_loss_71 : decode cX9_loss 71 = .ok (.iload_n 3, 1) := by decide +kernel
theorem dX9_loss_72 : decode cX9_loss 72 = .ok (.idiv, 1) := by decide +kernel
theorem dX9_loss_73 : decode cX9_loss 73 = .ok (.ireturn, 1) := by decide +kernel
theorem dX9_longestGap_0 : decode cX9_longestGap 0 = .ok (.aload_n 0, 1) := by decide +kernel
theorem dX9_longestGap_1 : decode cX9_longestGap 1 = .ok (.getfield 7, 3) := by decide +kernel
theorem dX9_longestGap_4 : decode cX9_longestGap 4 = .ok (.bipush 14, 2) := by decide +kernel
theorem dX9_longestGap_6 : decode cX9_longestGap 6 = .ok (.iaload, 1) := by decide +kernel
theorem dX9_longestGap_7 : decode cX9_longestGap 7 = .ok (.ireturn, 1) := by decide +kernel
theorem dX9_keeps_0 : decode cX9_keeps 0 = .ok (.iconst 0, 1) := by decide +kernel
theorem dX9_keeps_1 : decode cX9_keeps 1 = .ok (.istore_n 1, 1) := by decide +kernel
theorem dX9_keeps_2 : decode cX9_keeps 2 = .ok (.iload_n 1, 1) := by decide +kernel
theorem dX9_keeps_3 : decode cX9_keeps 3 = .ok (.sipush 2484, 3) := by decide +kernel
theorem dX9_keeps_6 : decode cX9_keeps 6 = .ok (.if_icmp .ge 21, 3) := by decide +kernel
theorem dX9_keeps_9 : decode cX9_keeps 9 = .ok (.aload_n 0, 1) := by decide +kernel
theorem dX9_keeps_10 : decode cX9_keeps 10 = .ok (.getfield 13, 3) := by decide +kernel
theorem dX9_keeps_13 : decode cX9_keeps 13 = .ok (.iload_n 1, 1) := by decide +kernel
theorem dX9_keeps_14 : decode cX9_keeps 14 = .ok (.aload_n 0, 1) := by decide +kernel
theorem dX9_keeps_15 : decode cX9_keeps 15 = .ok (.getfield 7, 3) := by decide +kernel
theorem dX9_keeps_18 : decode cX9_keeps 18 = .ok (.iload_n 1, 1) := by decide +kernel
theorem dX9_keeps_19 : decode cX9_keeps 19 = .ok (.iaload, 1) := by decide +kernel
theorem dX9_keeps_20 : decode cX9_keeps 20 = .ok (.iastore, 1) := by decide +kernel
theorem dX9_keeps_21 : decode cX9_keeps 21 = .ok (.iinc 1 1, 3) := by decide +kernel
theorem dX9_keeps_24 : decode cX9_keeps 24 = .ok (.goto (-22), 3) := by decide +kernel
theorem dX9_keeps_27 : decode cX9_keeps 27 = .ok (.return_, 1) := by decide +kernel
theorem dX9_brings_0 : decode cX9_brings 0 = .ok (.iconst 0, 1) := by decide +kernel
theorem dX9_brings_1 : decode cX9_brings 1 = .ok (.istore_n 1, 1) := by decide +kernel
theorem dX9_brings_2 : decode cX9_brings 2 = .ok (.iload_n 1, 1) := by decide +kernel
theorem dX9_brings_3 : decode cX9_brings 3 = .ok (.sipush 2484, 3) := by decide +kernel
theorem dX9_brings_6 : decode cX9_brings 6 = .ok (.if_icmp .ge 21, 3) := by decide +kernel
theorem dX9_brings_9 : decode cX9_brings 9 = .ok (.aload_n 0, 1) := by decide +kernel
theorem dX9_brings_10 : decode cX9_brings 10 = .ok (.getfield 7, 3) := by decide +kernel
theorem dX9_brings_13 : decode cX9_brings 13 = .ok (.iload_n 1, 1) := by decide +kernel
theorem dX9_brings_14 : decode cX9_brings 14 = .ok (.aload_n 0, 1) := by decide +kernel
theorem dX9_brings_15 : decode cX9_brings 15 = .ok (.getfield 13, 3) := by decide +kernel
theorem dX9_brings_18 : decode cX9_brings 18 = .ok (.iload_n 1, 1) := by decide +kernel
theorem dX9_brings_19 : decode cX9_brings 19 = .ok (.iaload, 1) := by decide +kernel
theorem dX9_brings_20 : decode cX9_brings 20 = .ok (.iastore, 1) := by decide +kernel
theorem dX9_brings_21 : decode cX9_brings 21 = .ok (.iinc 1 1, 3) := by decide +kernel
theorem dX9_brings_24 : decode cX9_brings 24 = .ok (.goto (-22), 3) := by decide +kernel
theorem dX9_brings_27 : decode cX9_brings 27 = .ok (.return_, 1) := by decide +kernel
theorem dX9_ticksToGap_0 : decode cX9_ticksToGap 0 = .ok (.aload_n 0, 1) := by decide +kernel
theorem dX9_ticksToGap_1 : decode cX9_ticksToGap 1 = .ok (.invokevirtual 144, 3) := by decide +kernel
theorem dX9_ticksToGap_4 : decode cX9_ticksToGap 4 = .ok (.sipush (-1004), 3) := by decide +kernel
theorem dX9_ticksToGap_7 : decode cX9_ticksToGap 7 = .ok (.istore_n 1, 1) := by decide +kernel
theorem dX9_ticksToGap_8 : decode cX9_ticksToGap 8 = .ok (.iconst 0, 1) := by decide +kernel
theorem dX9_ticksToGap_9 : decode cX9_ticksToGap 9 = .ok (.istore_n 2, 1) := by decide +kernel
theorem dX9_ticksToGap_10 : decode cX9_ticksToGap 10 = .ok (.iload_n 2, 1) := by decide +kernel
theorem dX9_ticksToGap_11 : decode cX9_ticksToGap 11 = .ok (.sipush 1000, 3) := by decide +kernel
theorem dX9_ticksToGap_14 : decode cX9_ticksToGap 14 = .ok (.if_icmp .ge 35, 3) := by decide +kernel
theorem dX9_ticksToGap_17 : decode cX9_ticksToGap 17 = .ok (.iload_n 1, 1) := by decide +kernel
theorem dX9_ticksToGap_18 : decode cX9_ticksToGap 18 = .ok (.ifCond .ge 31, 3) := by decide +kernel
theorem dX9_ticksToGap_21 : decode cX9_ticksToGap 21 = .ok (.aload_n 0, 1) := by decide +kernel
theorem dX9_ticksToGap_22 : decode cX9_ticksToGap 22 = .ok (.invokevirtual 141, 3) := by decide +kernel
theorem dX9_ticksToGap_25 : decode cX9_ticksToGap 25 = .ok (.istore_n 3, 1) := by decide +kernel
theorem dX9_ticksToGap_26 : decode cX9_ticksToGap 26 = .ok (.aload_n 0, 1) := by decide +kernel
theorem dX9_ticksToGap_27 : decode cX9_ticksToGap 27 = .ok (.getfield 7, 3) := by decide +kernel
theorem dX9_ticksToGap_30 : decode cX9_ticksToGap 30 = .ok (.bipush 27, 2) := by decide +kernel
theorem dX9_ticksToGap_32 : decode cX9_ticksToGap 32 = .ok (.iaload, 1) := by decide +kernel
theorem dX9_ticksToGap_33 : decode cX9_ticksToGap 33 = .ok (.iconst 3, 1) := by decide +kernel
theorem dX9_ticksToGap_34 : decode cX9_ticksToGap 34 = .ok (.if_icmp .ne 7, 3) := by decide +kernel
theorem dX9_ticksToGap_37 : decode cX9_ticksToGap 37 = .ok (.iload_n 2, 1) := by decide +kernel
theorem dX9_ticksToGap_38 : decode cX9_ticksToGap 38 = .ok (.goto 4, 3) := by decide +kernel
theorem dX9_ticksToGap_41 : decode cX9_ticksToGap 41 = .ok (.iload_n 1, 1) := by decide +kernel
theorem dX9_ticksToGap_42 : decode cX9_ticksToGap 42 = .ok (.istore_n 1, 1) := by decide +kernel
theorem dX9_ticksToGap_43 : decode cX9_ticksToGap 43 = .ok (.iinc 2 1, 3) := by decide +kernel
theorem dX9_ticksToGap_46 : decode cX9_ticksToGap 46 = .ok (.goto (-36), 3) := by decide +kernel
theorem dX9_ticksToGap_49 : decode cX9_ticksToGap 49 = .ok (.aload_n 0, 1) := by decide +kernel
theorem dX9_ticksToGap_50 : decode cX9_ticksToGap 50 = .ok (.invokevirtual 147, 3) := by decide +kernel
theorem dX9_ticksToGap_53 : decode cX9_ticksToGap 53 = .ok (.iload_n 1, 1) := by decide +kernel
theorem dX9_ticksToGap_54 : decode cX9_ticksToGap 54 = .ok (.ireturn, 1) := by decide +kernel
theorem dX9_gapsIn_0 : decode cX9_gapsIn 0 = .ok (.iload_n 1, 1) := by decide +kernel
theorem dX9_gapsIn_1 : decode cX9_gapsIn 1 = .ok (.iconst 1, 1) := by decide +kernel
theorem dX9_gapsIn_2 : decode cX9_gapsIn 2 = .ok (.sipush 1000, 3) := by decide +kernel
theorem dX9_gapsIn_5 : decode cX9_gapsIn 5 = .ok (.invokestatic 35, 3) := by decide +kernel
theorem dX9_gapsIn_8 : decode cX9_gapsIn 8 = .ok (.ifCond .ne 7, 3) := by decide +kernel
theorem dX9_gapsIn_11 : decode cX9_gapsIn 11 = .ok (.sipush (-1001), 3) := by decide +kernel
theorem dX9_gapsIn_14 : decode cX9_gapsIn 14 = .ok (.ireturn, 1) := by decide +kernel
theorem dX9_gapsIn_15 : decode cX9_gapsIn 15 = .ok (.aload_n 0, 1) := by decide +kernel
theorem dX9_gapsIn_16 : decode cX9_gapsIn 16 = .ok (.invokevirtual 144, 3) := by decide +kernel
theorem dX9_gapsIn_19 : decode cX9_gapsIn 19 = .ok (.iconst 0, 1) := by decide +kernel
theorem dX9_gapsIn_20 : decode cX9_gapsIn 20 = .ok (.istore_n 2, 1) := by decide +kernel
theorem dX9_gapsIn_21 : decode cX9_gapsIn 21 = .ok (.iconst 0, 1) := by decide +kernel
theorem dX9_gapsIn_22 : decode cX9_gapsIn 22 = .ok (.istore_n 3, 1) := by decide +kernel
theorem dX9_gapsIn_23 : decode cX9_gapsIn 23 = .ok (.iload_n 3, 1) := by decide +kernel
theorem dX9_gapsIn_24 : decode cX9_gapsIn 24 = .ok (.iload_n 1, 1) := by decide +kernel
theorem dX9_gapsIn_25 : decode cX9_gapsIn 25 = .ok (.if_icmp .ge 34, 3) := by decide +kernel
theorem dX9_gapsIn_28 : decode cX9_gapsIn 28 = .ok (.aload_n 0, 1) := by decide +kernel
theorem dX9_gapsIn_29 : decode cX9_gapsIn 29 = .ok (.invokevirtual 141, 3) := by decide +kernel
theorem dX9_gapsIn_32 : decode cX9_gapsIn 32 = .ok (.istore 4, 2) := by decide +kernel
theorem dX9_gapsIn_34 : decode cX9_gapsIn 34 = .ok (.iload_n 2, 1) := by decide +kernel
theorem dX9_gapsIn_35 : decode cX9_gapsIn 35 = .ok (.aload_n 0, 1) := by decide +kernel
theorem dX9_gapsIn_36 : decode cX9_gapsIn 36 = .ok (.getfield 7, 3) := by decide +kernel
theorem dX9_gapsIn_39 : decode cX9_gapsIn 39 = .ok (.bipush 27, 2) := by decide +kernel
theorem dX9_gapsIn_41 : decode cX9_gapsIn 41 = .ok (.iaload, 1) := by decide +kernel
theorem dX9_gapsIn_42 : decode cX9_gapsIn 42 = .ok (.iconst 3, 1) := by decide +kernel
theorem dX9_gapsIn_43 : decode cX9_gapsIn 43 = .ok (.if_icmp .ne 7, 3) := by decide +kernel
theorem dX9_gapsIn_46 : decode cX9_gapsIn 46 = .ok (.iconst 1, 1) := by decide +kernel
theorem dX9_gapsIn_47 : decode cX9_gapsIn 47 = .ok (.goto 4, 3) := by decide +kernel
theorem dX9_gapsIn_50 : decode cX9_gapsIn 50 = .ok (.iconst 0, 1) := by decide +kernel
theorem dX9_gapsIn_51 : decode cX9_gapsIn 51 = .ok (.iadd, 1) := by decide +kernel
theorem dX9_gapsIn_52 : decode cX9_gapsIn 52 = .ok (.istore_n 2, 1) := by decide +kernel
theorem dX9_gapsIn_53 : decode cX9_gapsIn 53 = .ok (.iinc 3 1, 3) := by decide +kernel
theorem dX9_gapsIn_56 : decode cX9_gapsIn 56 = .ok (.goto (-33), 3) := by decide +kernel
theorem dX9_gapsIn_59 : decode cX9_gapsIn 59 = .ok (.aload_n 0, 1) := by decide +kernel
theorem dX9_gapsIn_60 : decode cX9_gapsIn 60 = .ok (.invokevirtual 147, 3) := by decide +kernel
theorem dX9_gapsIn_63 : decode cX9_gapsIn 63 = .ok (.iload_n 2, 1) := by decide +kernel
theorem dX9_gapsIn_64 : decode cX9_gapsIn 64 = .ok (.ireturn, 1) := by decide +kernel
theorem dX9_ticksToFrame_0 : decode cX9_ticksToFrame 0 = .ok (.iload_n 1, 1) := by decide +kernel
theorem dX9_ticksToFrame_1 : decode cX9_ticksToFrame 1 = .ok (.invokestatic 84, 3) := by decide +kernel
theorem dX9_ticksToFrame_4 : decode cX9_ticksToFrame 4 = .ok (.ifCond .ne 7, 3) := by decide +kernel
theorem dX9_ticksToFrame_7 : decode cX9_ticksToFrame 7 = .ok (.sipush (-1001), 3) := by decide +kernel
theorem dX9_ticksToFrame_10 : decode cX9_ticksToFrame 10 = .ok (.ireturn, 1) := by decide +kernel
theorem dX9_ticksToFrame_11 : decode cX9_ticksToFrame 11 = .ok (.iload_n 1, 1) := by decide +kernel
theorem dX9_ticksToFrame_12 : decode cX9_ticksToFrame 12 = .ok (.aload_n 0, 1) := by decide +kernel
theorem dX9_ticksToFrame_13 : decode cX9_ticksToFrame 13 = .ok (.getfield 7, 3) := by decide +kernel
theorem dX9_ticksToFrame_16 : decode cX9_ticksToFrame 16 = .ok (.bipush 11, 2) := by decide +kernel
theorem dX9_ticksToFrame_18 : decode cX9_ticksToFrame 18 = .ok (.iaload, 1) := by decide +kernel
theorem dX9_ticksToFrame_19 : decode cX9_ticksToFrame 19 = .ok (.if_icmp .ge 7, 3) := by decide +kernel
theorem dX9_ticksToFrame_22 : decode cX9_ticksToFrame 22 = .ok (.sipush (-1003), 3) := by decide +kernel
theorem dX9_ticksToFrame_25 : decode cX9_ticksToFrame 25 = .ok (.ireturn, 1) := by decide +kernel
theorem dX9_ticksToFrame_26 : decode cX9_ticksToFrame 26 = .ok (.aload_n 0, 1) := by decide +kernel
theorem dX9_ticksToFrame_27 : decode cX9_ticksToFrame 27 = .ok (.invokevirtual 144, 3) := by decide +kernel
theorem dX9_ticksToFrame_30 : decode cX9_ticksToFrame 30 = .ok (.sipush (-1004), 3) := by decide +kernel
theorem dX9_ticksToFrame_33 : decode cX9_ticksToFrame 33 = .ok (.istore_n 2, 1) := by decide +kernel
theorem dX9_ticksToFrame_34 : decode cX9_ticksToFrame 34 = .ok (.iconst 0, 1) := by decide +kernel
theorem dX9_ticksToFrame_35 : decode cX9_ticksToFrame 35 = .ok (.istore_n 3, 1) := by decide +kernel
theorem dX9_ticksToFrame_36 : decode cX9_ticksToFrame 36 = .ok (.iload_n 3, 1) := by decide +kernel
theorem dX9_ticksToFrame_37 : decode cX9_ticksToFrame 37 = .ok (.sipush 2000, 3) := by decide +kernel
theorem dX9_ticksToFrame_40 : decode cX9_ticksToFrame 40 = .ok (.if_icmp .ge 36, 3) := by decide +kernel
theorem dX9_ticksToFrame_43 : decode cX9_ticksToFrame 43 = .ok (.iload_n 2, 1) := by decide +kernel
theorem dX9_ticksToFrame_44 : decode cX9_ticksToFrame 44 = .ok (.ifCond .ge 32, 3) := by decide +kernel
theorem dX9_ticksToFrame_47 : decode cX9_ticksToFrame 47 = .ok (.aload_n 0, 1) := by decide +kernel
theorem dX9_ticksToFrame_48 : decode cX9_ticksToFrame 48 = .ok (.invokevirtual 141, 3) := by decide +kernel
theorem dX9_ticksToFrame_51 : decode cX9_ticksToFrame 51 = .ok (.istore 4, 2) := by decide +kernel
theorem dX9_ticksToFrame_53 : decode cX9_ticksToFrame 53 = .ok (.aload_n 0, 1) := by decide +kernel
theorem dX9_ticksToFrame_54 : decode cX9_ticksToFrame 54 = .ok (.getfield 7, 3) := by decide +kernel
theorem dX9_ticksToFrame_57 : decode cX9_ticksToFrame 57 = .ok (.bipush 11, 2) := by decide +kernel
theorem dX9_ticksToFrame_59 : decode cX9_ticksToFrame 59 = .ok (.iaload, 1) := by decide +kernel
theorem dX9_ticksToFrame_60 : decode cX9_ticksToFrame 60 = .ok (.iload_n 1, 1) := by decide +kernel
theorem dX9_ticksToFrame_61 : decode cX9_ticksToFrame 61 = .ok (.if_icmp .le 7, 3) := by decide +kernel
theorem dX9_ticksToFrame_64 : decode cX9_ticksToFrame 64 = .ok (.iload_n 3, 1) := by decide +kernel
theorem dX9_ticksToFrame_65 : decode cX9_ticksToFrame 65 = .ok (.goto 4, 3) := by decide +kernel
theorem dX9_ticksToFrame_68 : decode cX9_ticksToFrame 68 = .ok (.iload_n 2, 1) := by decide +kernel
theorem dX9_ticksToFrame_69 : decode cX9_ticksToFrame 69 = .ok (.istore_n 2, 1) := by decide +kernel
theorem dX9_ticksToFrame_70 : decode cX9_ticksToFrame 70 = .ok (.iinc 3 1, 3) := by decide +kernel
theorem dX9_ticksToFrame_73 : decode cX9_ticksToFrame 73 = .ok (.goto (-37), 3) := by decide +kernel
theorem dX9_ticksToFrame_76 : decode cX9_ticksToFrame 76 = .ok (.aload_n 0, 1) := by decide +kernel
theorem dX9_ticksToFrame_77 : decode cX9_ticksToFrame 77 = .ok (.invokevirtual 147, 3) := by decide +kernel
theorem dX9_ticksToFrame_80 : decode cX9_ticksToFrame 80 = .ok (.iload_n 2, 1) := by decide +kernel
theorem dX9_ticksToFrame_81 : decode cX9_ticksToFrame 81 = .ok (.ireturn, 1) := by decide +kernel
theorem dX9_append_0 : decode cX9_append 0 = .ok (.iload_n 1, 1) := by decide +kernel
theorem dX9_append_1 : decode cX9_append 1 = .ok (.bipush 32, 2) := by decide +kernel
theorem dX9_append_3 : decode cX9_append 3 = .ok (.bipush 126, 2) := by decide +kernel
theorem dX9_append_5 : decode cX9_append 5 = .ok (.invokestatic 35, 3) := by decide +kernel
theorem dX9_append_8 : decode cX9_append 8 = .ok (.ifCond .ne 7, 3) := by decide +kernel
theorem dX9_append_11 : decode cX9_append 11 = .ok (.sipush (-1001), 3) := by decide +kernel
theorem dX9_append_14 : decode cX9_append 14 = .ok (.ireturn, 1) := by decide +kernel
theorem dX9_append_15 : decode cX9_append 15 = .ok (.aload_n 0, 1) := by decide +kernel
theorem dX9_append_16 : decode cX9_append 16 = .ok (.getfield 150, 3) := by decide +kernel
theorem dX9_append_19 : decode cX9_append 19 = .ok (.bipush 120, 2) := by decide +kernel
theorem dX9_append_21 : decode cX9_append 21 = .ok (.if_icmp .ne 7, 3) := by decide +kernel
theorem dX9_append_24 : decode cX9_append 24 = .ok (.sipush (-1002), 3) := by decide +kernel
theorem dX9_append_27 : decode cX9_append 27 = .ok (.ireturn, 1) := by decide +kernel
theorem dX9_append_28 : decode cX9_append 28 = .ok (.aload_n 0, 1) := by decide +kernel
theorem dX9_append_29 : decode cX9_append 29 = .ok (.getfield 23, 3) := by decide +kernel
theorem dX9_append_32 : decode cX9_append 32 = .ok (.aload_n 0, 1) := by decide +kernel
theorem dX9_append_33 : decode cX9_append 33 = .ok (.getfield 150, 3) := by decide +kernel
theorem dX9_append_36 : decode cX9_append 36 = .ok (.iload_n 1, 1) := by decide +kernel
theorem dX9_append_37 : decode cX9_append 37 = .ok (.iastore, 1) := by decide +kernel
theorem dX9_append_38 : decode cX9_append 38 = .ok (.aload_n 0, 1) := by decide +kernel
theorem dX9_append_39 : decode cX9_append 39 = .ok (.dup, 1) := by decide +kernel
theorem dX9_append_40 : decode cX9_append 40 = .ok (.getfield 150, 3) := by decide +kernel
theorem dX9_append_43 : decode cX9_append 43 = .ok (.iconst 1, 1) := by decide +kernel
theorem dX9_append_44 : decode cX9_append 44 = .ok (.iadd, 1) := by decide +kernel
theorem dX9_append_45 : decode cX9_append 45 = .ok (.putfield 150, 3) := by decide +kernel
theorem dX9_append_48 : decode cX9_append 48 = .ok (.aload_n 0, 1) := by decide +kernel
theorem dX9_append_49 : decode cX9_append 49 = .ok (.getfield 150, 3) := by decide +kernel
theorem dX9_append_52 : decode cX9_append 52 = .ok (.ireturn, 1) := by decide +kernel
theorem dX9_clearText_0 : decode cX9_clearText 0 = .ok (.aload_n 0, 1) := by decide +kernel
theorem dX9_clearText_1 : decode cX9_clearText 1 = .ok (.getfield 150, 3) := by decide +kernel
theorem dX9_clearText_4 : decode cX9_clearText 4 = .ok (.istore_n 1, 1) := by decide +kernel
theorem dX9_clearText_5 : decode cX9_clearText 5 = .ok (.aload_n 0, 1) := by decide +kernel
theorem dX9_clearText_6 : decode cX9_clearText 6 = .ok (.iconst 0, 1) := by decide +kernel
theorem dX9_clearText_7 : decode cX9_clearText 7 = .ok (.putfield 150, 3) := by decide +kernel
theorem dX9_clearText_10 : decode cX9_clearText 10 = .ok (.iload_n 1, 1) := by decide +kernel
theorem dX9_clearText_11 : decode cX9_clearText 11 = .ok (.ireturn, 1) := by decide +kernel
theorem dX9_here_0 : decode cX9_here 0 = .ok (.aload_n 0, 1) := by decide +kernel
theorem dX9_here_1 : decode cX9_here 1 = .ok (.getfield 154, 3) := by decide +kernel
theorem dX9_here_4 : decode cX9_here 4 = .ok (.aload_n 0, 1) := by decide +kernel
theorem dX9_here_5 : decode cX9_here 5 = .ok (.getfield 150, 3) := by decide +kernel
theorem dX9_here_8 : decode cX9_here 8 = .ok (.if_icmp .ge 15, 3) := by decide +kernel
theorem dX9_here_11 : decode cX9_here 11 = .ok (.aload_n 0, 1) := by decide +kernel
theorem dX9_here_12 : decode cX9_here 12 = .ok (.getfield 23, 3) := by decide +kernel
theorem dX9_here_15 : decode cX9_here 15 = .ok (.aload_n 0, 1) := by decide +kernel
theorem dX9_here_16 : decode cX9_here 16 = .ok (.getfield 154, 3) := by decide +kernel
theorem dX9_here_19 : decode cX9_here 19 = .ok (.iaload, 1) := by decide +kernel
theorem dX9_here_20 : decode cX9_here 20 = .ok (.goto 4, 3) := by decide +kernel
theorem dX9_here_23 : decode cX9_here 23 = .ok (.iconst 0, 1) := by decide +kernel
theorem dX9_here_24 : decode cX9_here 24 = .ok (.ireturn, 1) := by decide +kernel
theorem dX9_takes__0 : decode cX9_takes_ 0 = .ok (.aload_n 0, 1) := by decide +kernel
theorem dX9_takes__1 : decode cX9_takes_ 1 = .ok (.invokevirtual 157, 3) := by decide +kernel
theorem dX9_takes__4 : decode cX9_takes_ 4 = .ok (.iload_n 1, 1) := by decide +kernel
theorem dX9_takes__5 : decode cX9_takes_ 5 = .ok (.if_icmp .ne 7, 3) := by decide +kernel
theorem dX9_takes__8 : decode cX9_takes_ 8 = .ok (.iconst 1, 1) := by decide +kernel
theorem dX9_takes__9 : decode cX9_takes_ 9 = .ok (.goto 4, 3) := by decide +kernel
theorem dX9_takes__12 : decode cX9_takes_ 12 = .ok (.iconst 0, 1) := by decide +kernel
theorem dX9_takes__13 : decode cX9_takes_ 13 = .ok (.istore_n 2, 1) := by decide +kernel
theorem dX9_takes__14 : decode cX9_takes_ 14 = .ok (.aload_n 0, 1) := by decide +kernel
theorem dX9_takes__15 : decode cX9_takes_ 15 = .ok (.dup, 1) := by decide +kernel
theorem dX9_takes__16 : decode cX9_takes_ 16 = .ok (.getfield 154, 3) := by decide +kernel
theorem dX9_takes__19 : decode cX9_takes_ 19 = .ok (.iload_n 2, 1) := by decide +kernel
theorem dX9_takes__20 : decode cX9_takes_ 20 = .ok (.ifCond .eq 7, 3) := by decide +kernel
theorem dX9_takes__23 : decode cX9_takes_ 23 = .ok (.iconst 1, 1) := by decide +kernel
theorem dX9_takes__24 : decode cX9_takes_ 24 = .ok (.goto 4, 3) := by decide +kernel
theorem dX9_takes__27 : decode cX9_takes_ 27 = .ok (.iconst 0, 1) := by decide +kernel
theorem dX9_takes__28 : decode cX9_takes_ 28 = .ok (.iadd, 1) := by decide +kernel
theorem dX9_takes__29 : decode cX9_takes_ 29 = .ok (.putfield 154, 3) := by decide +kernel
theorem dX9_takes__32 : decode cX9_takes_ 32 = .ok (.iload_n 2, 1) := by decide +kernel
theorem dX9_takes__33 : decode cX9_takes_ 33 = .ok (.ireturn, 1) := by decide +kernel
theorem dX9_number_0 : decode cX9_number 0 = .ok (.iconst (-1), 1) := by decide +kernel
theorem dX9_number_1 : decode cX9_number 1 = .ok (.istore_n 1, 1) := by decide +kernel
theorem dX9_number_2 : decode cX9_number 2 = .ok (.aload_n 0, 1) := by decide +kernel
theorem dX9_number_3 : decode cX9_number 3 = .ok (.getfield 154, 3) := by decide +kernel
theorem dX9_number_6 : decode cX9_number 6 = .ok (.istore_n 2, 1) := by decide +kernel
theorem dX9_number_7 : decode cX9_number 7 = .ok (.aload_n 0, 1) := by decide +kernel
theorem dX9_number_8 : decode cX9_number 8 = .ok (.getfield 154, 3) := by decide +kernel
theorem dX9_number_11 : decode cX9_number 11 = .ok (.iload_n 2, 1) := by decide +kernel
theorem dX9_number_12 : decode cX9_number 12 = .ok (.isub, 1) := by decide +kernel
theorem dX9_number_13 : decode cX9_number 13 = .ok (.iconst 4, 1) := by decide +kernel
theorem dX9_number_14 : decode cX9_number 14 = .ok (.if_icmp .ge 51, 3) := by decide +kernel
theorem dX9_number_17 : decode cX9_number 17 = .ok (.aload_n 0, 1) := by decide +kernel
theorem dX9_number_18 : decode cX9_number 18 = .ok (.invokevirtual 157, 3) := by decide +kernel
theorem dX9_number_21 : decode cX9_number 21 = .ok (.bipush 48, 2) := by decide +kernel
theorem dX9_number_23 : decode cX9_number 23 = .ok (.bipush 57, 2) := by decide +kernel
theorem dX9_number_25 : decode cX9_number 25 = .ok (.invokestatic 35, 3) := by decide +kernel
theorem dX9_number_28 : decode cX9_number 28 = .ok (.ifCond .eq 37, 3) := by decide +kernel
theorem dX9_number_31 : decode cX9_number 31 = .ok (.iload_n 1, 1) := by decide +kernel
theorem dX9_number_32 : decode cX9_number 32 = .ok (.ifCond .ge 7, 3) := by decide +kernel
theorem dX9_number_35 : decode cX9_number 35 = .ok (.iconst 0, 1) := by decide +kernel
theorem dX9_number_36 : decode cX9_number 36 = .ok (.goto 7, 3) := by decide +kernel
theorem dX9_number_39 : decode cX9_number 39 = .ok (.bipush 10, 2) := by decide +kernel
theorem dX9_number_41 : decode cX9_number 41 = .ok (.iload_n 1, 1) := by decide +kernel
theorem dX9_number_42 : decode cX9_number 42 = .ok (.imul, 1) := by decide +kernel
theorem dX9_number_43 : decode cX9_number 43 = .ok (.aload_n 0, 1) := by decide +kernel
theorem dX9_number_44 : decode cX9_number 44 = .ok (.invokevirtual 157, 3) := by decide +kernel
theorem dX9_number_47 : decode cX9_number 47 = .ok (.iadd, 1) := by decide +kernel
theorem dX9_number_48 : decode cX9_number 48 = .ok (.bipush 48, 2) := by decide +kernel
theorem dX9_number_50 : decode cX9_number 50 = .ok (.isub, 1) := by decide +kernel
theorem dX9_number_51 : decode cX9_number 51 = .ok (.istore_n 1, 1) := by decide +kernel
theorem dX9_number_52 : decode cX9_number 52 = .ok (.aload_n 0, 1) := by decide +kernel
theorem dX9_number_53 : decode cX9_number 53 = .ok (.dup, 1) := by decide +kernel
theorem dX9_number_54 : decode cX9_number 54 = .ok (.getfield 154, 3) := by decide +kernel
theorem dX9_number_57 : decode cX9_number 57 = .ok (.iconst 1, 1) := by decide +kernel
theorem dX9_number_58 : decode cX9_number 58 = .ok (.iadd, 1) := by decide +kernel
theorem dX9_number_59 : decode cX9_number 59 = .ok (.putfield 154, 3) := by decide +kernel
theorem dX9_number_62 : decode cX9_number 62 = .ok (.goto (-55), 3) := by decide +kernel
theorem dX9_number_65 : decode cX9_number 65 = .ok (.iload_n 1, 1) := by decide +kernel
theorem dX9_number_66 : decode cX9_number 66 = .ok (.ireturn, 1) := by decide +kernel
theorem dX9_isEntry_0 : decode cX9_isEntry 0 = .ok (.iconst 4, 1) := by decide +kernel
theorem dX9_isEntry_1 : decode cX9_isEntry 1 = .ok (.aload_n 0, 1) := by decide +kernel
theorem dX9_isEntry_2 : decode cX9_isEntry 2 = .ok (.getfield 160, 3) := by decide +kernel
theorem dX9_isEntry_5 : decode cX9_isEntry 5 = .ok (.imul, 1) := by decide +kernel
theorem dX9_isEntry_6 : decode cX9_isEntry 6 = .ok (.istore_n 1, 1) := by decide +kernel
theorem dX9_isEntry_7 : decode cX9_isEntry 7 = .ok (.aload_n 0, 1) := by decide +kernel
theorem dX9_isEntry_8 : decode cX9_isEntry 8 = .ok (.invokevirtual 157, 3) := by decide +kernel
theorem dX9_isEntry_11 : decode cX9_isEntry 11 = .ok (.istore_n 2, 1) := by decide +kernel
theorem dX9_isEntry_12 : decode cX9_isEntry 12 = .ok (.aload_n 0, 1) := by decide +kernel
theorem dX9_isEntry_13 : decode cX9_isEntry 13 = .ok (.getfield 32, 3) := by decide +kernel
theorem dX9_isEntry_16 : decode cX9_isEntry 16 = .ok (.iload_n 1, 1) := by decide +kernel
theorem dX9_isEntry_17 : decode cX9_isEntry 17 = .ok (.iload_n 2, 1) := by decide +kernel
theorem dX9_isEntry_18 : decode cX9_isEntry 18 = .ok (.bipush 100, 2) := by decide +kernel
theorem dX9_isEntry_20 : decode cX9_isEntry 20 = .ok (.if_icmp .ne 7, 3) := by decide +kernel
theorem dX9_isEntry_23 : decode cX9_isEntry 23 = .ok (.iconst 0, 1) := by decide +kernel
theorem dX9_isEntry_24 : decode cX9_isEntry 24 = .ok (.goto 14, 3) := by decide +kernel
theorem dX9_isEntry_27 : decode cX9_isEntry 27 = .ok (.iload_n 2, 1) := by decide +kernel
theorem dX9_isEntry_28 : decode cX9_isEntry 28 = .ok (.bipush 114, 2) := by decide +kernel
theorem dX9_isEntry_30 : decode cX9_isEntry 30 = .ok (.if_icmp .ne 7, 3) := by decide +kernel
theorem dX9_isEntry_33 : decode cX9_isEntry 33 = .ok (.iconst 1, 1) := by decide +kernel
theorem dX9_isEntry_34 : decode cX9_isEntry 34 = .ok (.goto 4, 3) := by decide +kernel
theorem dX9_isEntry_37 : decode cX9_isEntry 37 = .ok (.iconst 2, 1) := by decide +kernel
theorem dX9_isEntry_38 : decode cX9_isEntry 38 = .ok (.iastore, 1) := by decide +kernel
theorem dX9_isEntry_39 : decode cX9_isEntry 39 = .ok (.iload_n 2, 1) := by decide +kernel
theorem dX9_isEntry_40 : decode cX9_isEntry 40 = .ok (.bipush 100, 2) := by decide +kernel
theorem dX9_isEntry_42 : decode cX9_isEntry 42 = .ok (.if_icmp .eq 17, 3) := by decide +kernel
theorem dX9_isEntry_45 : decode cX9_isEntry 45 = .ok (.iload_n 2, 1) := by decide +kernel
theorem dX9_isEntry_46 : decode cX9_isEntry 46 = .ok (.bipush 114, 2) := by decide +kernel
theorem dX9_isEntry_48 : decode cX9_isEntry 48 = .ok (.if_icmp .eq 11, 3) := by decide +kernel
theorem dX9_isEntry_51 : decode cX9_isEntry 51 = .ok (.iload_n 2, 1) := by decide +kernel
theorem dX9_isEntry_52 : decode cX9_isEntry 52 = .ok (.bipush 99, 2) := by decide +kernel
theorem dX9_isEntry_54 : decode cX9_isEntry 54 = .ok (.if_icmp .eq 5, 3) := by decide +kernel
theorem dX9_isEntry_57 : decode cX9_isEntry 57 = .ok (.iconst 0, 1) := by decide +kernel
theorem dX9_isEntry_58 : decode cX9_isEntry 58 = .ok (.ireturn, 1) := by decide +kernel
theorem dX9_isEntry_59 : decode cX9_isEntry 59 = .ok (.aload_n 0, 1) := by decide +kernel
theorem dX9_isEntry_60 : decode cX9_isEntry 60 = .ok (.dup, 1) := by decide +kernel
theorem dX9_isEntry_61 : decode cX9_isEntry 61 = .ok (.getfield 154, 3) := by decide +kernel
theorem dX9_isEntry_64 : decode cX9_isEntry 64 = .ok (.iconst 1, 1) := by decide +kernel
theorem dX9_isEntry_65 : decode cX9_isEntry 65 = .ok (.iadd, 1) := by decide +kernel
theorem dX9_isEntry_66 : decode cX9_isEntry 66 = .ok (.putfield 154, 3) := by decide +kernel
theorem dX9_isEntry_69 : decode cX9_isEntry 69 = .ok (.aload_n 0, 1) := by decide +kernel
theorem dX9_isEntry_70 : decode cX9_isEntry 70 = .ok (.getfield 32, 3) := by decide +kernel
theorem dX9_isEntry_73 : decode cX9_isEntry 73 = .ok (.iload_n 1, 1) := by decide +kernel
theorem dX9_isEntry_74 : decode cX9_isEntry 74 = .ok (.iconst 1, 1) := by decide +kernel
theorem dX9_isEntry_75 : decode cX9_isEntry 75 = .ok (.iadd, 1) := by decide +kernel
theorem dX9_isEntry_76 : decode cX9_isEntry 76 = .ok (.aload_n 0, 1) := by decide +kernel
theorem dX9_isEntry_77 : decode cX9_isEntry 77 = .ok (.invokevirtual 163, 3) := by decide +kernel
theorem dX9_isEntry_80 : decode cX9_isEntry 80 = .ok (.iastore, 1) := by decide +kernel
theorem dX9_isEntry_81 : decode cX9_isEntry 81 = .ok (.aload_n 0, 1) := by decide +kernel
theorem dX9_isEntry_82 : decode cX9_isEntry 82 = .ok (.getfield 32, 3) := by decide +kernel
theorem dX9_isEntry_85 : decode cX9_isEntry 85 = .ok (.iload_n 1, 1) := by decide +kernel
theorem dX9_isEntry_86 : decode cX9_isEntry 86 = .ok (.iconst 2, 1) := by decide +kernel
theorem dX9_isEntry_87 : decode cX9_isEntry 87 = .ok (.iadd, 1) := by decide +kernel
theorem dX9_isEntry_88 : decode cX9_isEntry 88 = .ok (.iconst 0, 1) := by decide +kernel
theorem dX9_isEntry_89 : decode cX9_isEntry 89 = .ok (.iastore, 1) := by decide +kernel
theorem dX9_isEntry_90 : decode cX9_isEntry 90 = .ok (.aload_n 0, 1) := by decide +kernel
theorem dX9_isEntry_91 : decode cX9_isEntry 91 = .ok (.getfield 32, 3) := by decide +kernel
theorem dX9_isEntry_94 : decode cX9_isEntry 94 = .ok (.iload_n 1, 1) := by decide +kernel
theorem dX9_isEntry_95 : decode cX9_isEntry 95 = .ok (.iconst 1, 1) := by decide +kernel
theorem dX9_isEntry_96 : decode cX9_isEntry 96 = .ok (.iadd, 1) := by decide +kernel
theorem dX9_isEntry_97 : decode cX9_isEntry 97 = .ok (.iaload, 1) := by decide +kernel
theorem dX9_isEntry_98 : decode cX9_isEntry 98 = .ok (.ifCond .ge 5, 3) := by decide +kernel
theorem dX9_isEntry_101 : decode cX9_isEntry 101 = .ok (.iconst 0, 1) := by decide +kernel
theorem dX9_isEntry_102 : decode cX9_isEntry 102 = .ok (.ireturn, 1) := by decide +kernel
theorem dX9_isEntry_103 : decode cX9_isEntry 103 = .ok (.aload_n 0, 1) := by decide +kernel
theorem dX9_isEntry_104 : decode cX9_isEntry 104 = .ok (.getfield 32, 3) := by decide +kernel
theorem dX9_isEntry_107 : decode cX9_isEntry 107 = .ok (.iload_n 1, 1) := by decide +kernel
theorem dX9_isEntry_108 : decode cX9_isEntry 108 = .ok (.iaload, 1) := by decide +kernel
theorem dX9_isEntry_109 : decode cX9_isEntry 109 = .ok (.ifCond .le 26, 3) := by decide +kernel
theorem dX9_isEntry_112 : decode cX9_isEntry 112 = .ok (.aload_n 0, 1) := by decide +kernel
theorem dX9_isEntry_113 : decode cX9_isEntry 113 = .ok (.bipush 46, 2) := by decide +kernel
theorem dX9_isEntry_115 : decode cX9_isEntry 115 = .ok (.invokevirtual 166, 3) := by decide +kernel
theorem dX9_isEntry_118 : decode cX9_isEntry 118 = .ok (.ifCond .ne 5, 3) := by decide +kernel
theorem dX9_isEntry_121 : decode cX9_isEntry 121 = .ok (.iconst 0, 1) := by decide +kernel
theorem dX9_isEntry_122 : decode cX9_isEntry 122 = .ok (.ireturn, 1) := by decide +kernel
theorem dX9_isEntry_123 : decode cX9_isEntry 123 = .ok (.aload_n 0, 1) := by decide +kernel
theorem dX9_isEntry_124 : decode cX9_isEntry 124 = .ok (.getfield 32, 3) := by decide +kernel
theorem dX9_isEntry_127 : decode cX9_isEntry 127 = .ok (.iload_n 1, 1) := by decide +kernel
theorem dX9_isEntry_128 : decode cX9_isEntry 128 = .ok (.iconst 2, 1) := by decide +kernel
theorem dX9_isEntry_129 : decode cX9_isEntry 129 = .ok (.iadd, 1) := by decide +kernel
theorem dX9_isEntry_130 : decode cX9_isEntry 130 = .ok (.aload_n 0, 1) := by decide +kernel
theorem dX9_isEntry_131 : decode cX9_isEntry 131 = .ok (.invokevirtual 163, 3) := by decide +kernel
theorem dX9_isEntry_134 : decode cX9_isEntry 134 = .ok (.iastore, 1) := by decide +kernel
theorem dX9_isEntry_135 : decode cX9_isEntry 135 = .ok (.aload_n 0, 1) := by decide +kernel
theorem dX9_isEntry_136 : decode cX9_isEntry 136 = .ok (.getfield 32, 3) := by decide +kernel
theorem dX9_isEntry_139 : decode cX9_isEntry 139 = .ok (.iload_n 1, 1) := by decide +kernel
theorem dX9_isEntry_140 : decode cX9_isEntry 140 = .ok (.iconst 2, 1) := by decide +kernel
theorem dX9_isEntry_141 : decode cX9_isEntry 141 = .ok (.iadd, 1) := by decide +kernel
theorem dX9_isEntry_142 : decode cX9_isEntry 142 = .ok (.iaload, 1) := by decide +kernel
theorem dX9_isEntry_143 : decode cX9_isEntry 143 = .ok (.ifCond .lt 12, 3) := by decide +kernel
theorem dX9_isEntry_146 : decode cX9_isEntry 146 = .ok (.aload_n 0, 1) := by decide +kernel
theorem dX9_isEntry_147 : decode cX9_isEntry 147 = .ok (.bipush 64, 2) := by decide +kernel
theorem dX9_isEntry_149 : decode cX9_isEntry 149 = .ok (.invokevirtual 166, 3) := by decide +kernel
theorem dX9_isEntry_152 : decode cX9_isEntry 152 = .ok (.ifCond .ne 5, 3) := by decide +kernel
theorem dX9_isEntry_155 : decode cX9_isEntry 155 = .ok (.iconst 0, 1) := by decide +kernel
theorem dX9_isEntry_156 : decode cX9_isEntry 156 = .ok (.ireturn, 1) := by decide +kernel
theorem dX9_isEntry_157 : decode cX9_isEntry 157 = .ok (.aload_n 0, 1) := by decide +kernel
theorem dX9_isEntry_158 : decode cX9_isEntry 158 = .ok (.getfield 32, 3) := by decide +kernel
theorem dX9_isEntry_161 : decode cX9_isEntry 161 = .ok (.iload_n 1, 1) := by decide +kernel
theorem dX9_isEntry_162 : decode cX9_isEntry 162 = .ok (.iconst 3, 1) := by decide +kernel
theorem dX9_isEntry_163 : decode cX9_isEntry 163 = .ok (.iadd, 1) := by decide +kernel
theorem dX9_isEntry_164 : decode cX9_isEntry 164 = .ok (.aload_n 0, 1) := by decide +kernel
theorem dX9_isEntry_165 : decode cX9_isEntry 165 = .ok (.invokevirtual 163, 3) := by decide +kernel
theorem dX9_isEntry_168 : decode cX9_isEntry 168 = .ok (.iastore, 1) := by decide +kernel
theorem dX9_isEntry_169 : decode cX9_isEntry 169 = .ok (.aload_n 0, 1) := by decide +kernel
theorem dX9_isEntry_170 : decode cX9_isEntry 170 = .ok (.dup, 1) := by decide +kernel
theorem dX9_isEntry_171 : decode cX9_isEntry 171 = .ok (.getfield 160, 3) := by decide +kernel
theorem dX9_isEntry_174 : decode cX9_isEntry 174 = .ok (.iconst 1, 1) := by decide +kernel
theorem dX9_isEntry_175 : decode cX9_isEntry 175 = .ok (.iadd, 1) := by decide +kernel
theorem dX9_isEntry_176 : decode cX9_isEntry 176 = .ok (.putfield 160, 3) := by decide +kernel
theorem dX9_isEntry_179 : decode cX9_isEntry 179 = .ok (.aload_n 0, 1) := by decide +kernel
theorem dX9_isEntry_180 : decode cX9_isEntry 180 = .ok (.getfield 32, 3) := by decide +kernel
theorem dX9_isEntry_183 : decode cX9_isEntry 183 = .ok (.iload_n 1, 1) := by decide +kernel
theorem dX9_isEntry_184 : decode cX9_isEntry 184 = .ok (.iconst 3, 1) := by decide +kernel
theorem dX9_isEntry_185 : decode cX9_isEntry 185 = .ok (.iadd, 1) := by decide +kernel
theorem dX9_isEntry_186 : decode cX9_isEntry 186 = .ok (.iaload, 1) := by decide +kernel
theorem dX9_isEntry_187 : decode cX9_isEntry 187 = .ok (.ifCond .lt 16, 3) := by decide +kernel
theorem dX9_isEntry_190 : decode cX9_isEntry 190 = .ok (.aload_n 0, 1) := by decide +kernel
theorem dX9_isEntry_191 : decode cX9_isEntry 191 = .ok (.bipush 59, 2) := by decide +kernel
theorem dX9_isEntry_193 : decode cX9_isEntry 193 = .ok (.invokevirtual 166, 3) := by decide +kernel
theorem dX9_isEntry_196 : decode cX9_isEntry 196 = .ok (.ifCond .eq 7, 3) := by decide +kernel
theorem dX9_isEntry_199 : decode cX9_isEntry 199 = .ok (.iconst 1, 1) := by decide +kernel
theorem dX9_isEntry_200 : decode cX9_isEntry 200 = .ok (.goto 4, 3) := by decide +kernel
theorem dX9_isEntry_203 : decode cX9_isEntry 203 = .ok (.iconst 0, 1) := by decide +kernel
theorem dX9_isEntry_204 : decode cX9_isEntry 204 = .ok (.ireturn, 1) := by decide +kernel
theorem dX9_isText_0 : decode cX9_isText 0 = .ok (.aload_n 0, 1) := by decide +kernel
theorem dX9_isText_1 : decode cX9_isText 1 = .ok (.iconst 0, 1) := by decide +kernel
theorem dX9_isText_2 : decode cX9_isText 2 = .ok (.putfield 154, 3) := by decide +kernel
theorem dX9_isText_5 : decode cX9_isText 5 = .ok (.aload_n 0, 1) := by decide +kernel
theorem dX9_isText_6 : decode cX9_isText 6 = .ok (.iconst 0, 1) := by decide +kernel
theorem dX9_isText_7 : decode cX9_isText 7 = .ok (.putfield 160, 3) := by decide +kernel
theorem dX9_isText_10 : decode cX9_isText 10 = .ok (.iconst 1, 1) := by decide +kernel
theorem dX9_isText_11 : decode cX9_isText 11 = .ok (.istore_n 1, 1) := by decide +kernel
theorem dX9_isText_12 : decode cX9_isText 12 = .ok (.iload_n 1, 1) := by decide +kernel
theorem dX9_isText_13 : decode cX9_isText 13 = .ok (.ifCond .eq 22, 3) := by decide +kernel
theorem dX9_isText_16 : decode cX9_isText 16 = .ok (.aload_n 0, 1) := by decide +kernel
theorem dX9_isText_17 : decode cX9_isText 17 = .ok (.getfield 154, 3) := by decide +kernel
theorem dX9_isText_20 : decode cX9_isText 20 = .ok (.aload_n 0, 1) := by decide +kernel
theorem dX9_isText_21 : decode cX9_isText 21 = .ok (.getfield 150, 3) := by decide +kernel
theorem dX9_isText_24 : decode cX9_isText 24 = .ok (.if_icmp .ge 11, 3) := by decide +kernel
theorem dX9_isText_27 : decode cX9_isText 27 = .ok (.aload_n 0, 1) := by decide +kernel
theorem dX9_isText_28 : decode cX9_isText 28 = .ok (.invokevirtual 168, 3) := by decide +kernel
theorem dX9_isText_31 : decode cX9_isText 31 = .ok (.istore_n 1, 1) := by decide +kernel
theorem dX9_isText_32 : decode cX9_isText 32 = .ok (.goto (-20), 3) := by decide +kernel
theorem dX9_isText_35 : decode cX9_isText 35 = .ok (.iload_n 1, 1) := by decide +kernel
theorem dX9_isText_36 : decode cX9_isText 36 = .ok (.ireturn, 1) := by decide +kernel
theorem dX9_faultPosition_0 : decode cX9_faultPosition 0 = .ok (.aload_n 0, 1) := by decide +kernel
theorem dX9_faultPosition_1 : decode cX9_faultPosition 1 = .ok (.invokevirtual 171, 3) := by decide +kernel
theorem dX9_faultPosition_4 : decode cX9_faultPosition 4 = .ok (.ifCond .eq 9, 3) := by decide +kernel
theorem dX9_faultPosition_7 : decode cX9_faultPosition 7 = .ok (.sipush (-1004), 3) := by decide +kernel
theorem dX9_faultPosition_10 : decode cX9_faultPosition 10 = .ok (.goto 7, 3) := by decide +kernel
theorem dX9_faultPosition_13 : decode cX9_faultPosition 13 = .ok (.aload_n 0, 1) := by decide +kernel
theorem dX9_faultPosition_14 : decode cX9_faultPosition 14 = .ok (.getfield 154, 3) := by decide +kernel
theorem dX9_faultPosition_17 : decode cX9_faultPosition 17 = .ok (.ireturn, 1) := by decide +kernel
theorem dX9_isArrival_0 : decode cX9_isArrival 0 = .ok (.aload_n 0, 1) := by decide +kernel
theorem dX9_isArrival_1 : decode cX9_isArrival 1 = .ok (.getfield 32, 3) := by decide +kernel
theorem dX9_isArrival_4 : decode cX9_isArrival 4 = .ok (.iload_n 1, 1) := by decide +kernel
theorem dX9_isArrival_5 : decode cX9_isArrival 5 = .ok (.iaload, 1) := by decide +kernel
theorem dX9_isArrival_6 : decode cX9_isArrival 6 = .ok (.ifCond .ne 17, 3) := by decide +kernel
theorem dX9_isArrival_9 : decode cX9_isArrival 9 = .ok (.aload_n 0, 1) := by decide +kernel
theorem dX9_isArrival_10 : decode cX9_isArrival 10 = .ok (.getfield 32, 3) := by decide +kernel
theorem dX9_isArrival_13 : decode cX9_isArrival 13 = .ok (.iload_n 1, 1) := by decide +kernel
theorem dX9_isArrival_14 : decode cX9_isArrival 14 = .ok (.iconst 1, 1) := by decide +kernel
theorem dX9_isArrival_15 : decode cX9_isArrival 15 = .ok (.iadd, 1) := by decide +kernel
theorem dX9_isArrival_16 : decode cX9_isArrival 16 = .ok (.iaload, 1) := by decide +kernel
theorem dX9_isArrival_17 : decode cX9_isArrival 17 = .ok (.invokestatic 84, 3) := by decide +kernel
theorem dX9_isArrival_20 : decode cX9_isArrival 20 = .ok (.goto 38, 3) := by decide +kernel
theorem dX9_isArrival_23 : decode cX9_isArrival 23 = .ok (.aload_n 0, 1) := by decide +kernel
theorem dX9_isArrival_24 : decode cX9_isArrival 24 = .ok (.aload_n 0, 1) := by decide +kernel
theorem dX9_isArrival_25 : decode cX9_isArrival 25 = .ok (.getfield 32, 3) := by decide +kernel
theorem dX9_isArrival_28 : decode cX9_isArrival 28 = .ok (.iload_n 1, 1) := by decide +kernel
theorem dX9_isArrival_29 : decode cX9_isArrival 29 = .ok (.iaload, 1) := by decide +kernel
theorem dX9_isArrival_30 : decode cX9_isArrival 30 = .ok (.iconst 1, 1) := by decide +kernel
theorem dX9_isArrival_31 : decode cX9_isArrival 31 = .ok (.if_icmp .ne 7, 3) := by decide +kernel
theorem dX9_isArrival_34 : decode cX9_isArrival 34 = .ok (.iconst 1, 1) := by decide +kernel
theorem dX9_isArrival_35 : decode cX9_isArrival 35 = .ok (.goto 4, 3) := by decide +kernel
theorem dX9_isArrival_38 : decode cX9_isArrival 38 = .ok (.iconst 0, 1) := by decide +kernel
theorem dX9_isArrival_39 : decode cX9_isArrival 39 = .ok (.aload_n 0, 1) := by decide +kernel
theorem dX9_isArrival_40 : decode cX9_isArrival 40 = .ok (.getfield 32, 3) := by decide +kernel
theorem dX9_isArrival_43 : decode cX9_isArrival 43 = .ok (.iload_n 1, 1) := by decide +kernel
theorem dX9_isArrival_44 : decode cX9_isArrival 44 = .ok (.iconst 1, 1) := by decide +kernel
theorem dX9_isArrival_45 : decode cX9_isArrival 45 = .ok (.iadd, 1) := by decide +kernel
theorem dX9_isArrival_46 : decode cX9_isArrival 46 = .ok (.iaload, 1) := by decide +kernel
theorem dX9_isArrival_47 : decode cX9_isArrival 47 = .ok (.aload_n 0, 1) := by decide +kernel
theorem dX9_isArrival_48 : decode cX9_isArrival 48 = .ok (.getfield 32, 3) := by decide +kernel
theorem dX9_isArrival_51 : decode cX9_isArrival 51 = .ok (.iload_n 1, 1) := by decide +kernel
theorem dX9_isArrival_52 : decode cX9_isArrival 52 = .ok (.iconst 2, 1) := by decide +kernel
theorem dX9_isArrival_53 : decode cX9_isArrival 53 = .ok (.iadd, 1) := by decide +kernel
theorem dX9_isArrival_54 : decode cX9_isArrival 54 = .ok (.iaload, 1) := by decide +kernel
theorem dX9_isArrival_55 : decode cX9_isArrival 55 = .ok (.invokevirtual 91, 3) := by decide +kernel
theorem dX9_isArrival_58 : decode cX9_isArrival 58 = .ok (.istore_n 2, 1) := by decide +kernel
theorem dX9_isArrival_59 : decode cX9_isArrival 59 = .ok (.iload_n 2, 1) := by decide +kernel
theorem dX9_isArrival_60 : decode cX9_isArrival 60 = .ok (.ifCond .eq 25, 3) := by decide +kernel
theorem dX9_isArrival_63 : decode cX9_isArrival 63 = .ok (.aload_n 0, 1) := by decide +kernel
theorem dX9_isArrival_64 : decode cX9_isArrival 64 = .ok (.getfield 32, 3) := by decide +kernel
theorem dX9_isArrival_67 : decode cX9_isArrival 67 = .ok (.iload_n 1, 1) := by decide +kernel
theorem dX9_isArrival_68 : decode cX9_isArrival 68 = .ok (.iconst 3, 1) := by decide +kernel
theorem dX9_isArrival_69 : decode cX9_isArrival 69 = .ok (.iadd, 1) := by decide +kernel
theorem dX9_isArrival_70 : decode cX9_isArrival 70 = .ok (.iaload, 1) := by decide +kernel
theorem dX9_isArrival_71 : decode cX9_isArrival 71 = .ok (.aload_n 0, 1) := by decide +kernel
theorem dX9_isArrival_72 : decode cX9_isArrival 72 = .ok (.getfield 7, 3) := by decide +kernel
theorem dX9_isArrival_75 : decode cX9_isArrival 75 = .ok (.bipush 9, 2) := by decide +kernel
theorem dX9_isArrival_77 : decode cX9_isArrival 77 = .ok (.iaload, 1) := by decide +kernel
theorem dX9_isArrival_78 : decode cX9_isArrival 78 = .ok (.if_icmp .le 7, 3) := by decide +kernel
theorem dX9_isArrival_81 : decode cX9_isArrival 81 = .ok (.iconst 1, 1) := by decide +kernel
theorem dX9_isArrival_82 : decode cX9_isArrival 82 = .ok (.goto 4, 3) := by decide +kernel
theorem dX9_isArrival_85 : decode cX9_isArrival 85 = .ok (.iconst 0, 1) := by decide +kernel
theorem dX9_isArrival_86 : decode cX9_isArrival 86 = .ok (.ireturn, 1) := by decide +kernel
theorem dX9_schedule_0 : decode cX9_schedule 0 = .ok (.aload_n 0, 1) := by decide +kernel
theorem dX9_schedule_1 : decode cX9_schedule 1 = .ok (.invokevirtual 171, 3) := by decide +kernel
theorem dX9_schedule_4 : decode cX9_schedule 4 = .ok (.ifCond .ne 7, 3) := by decide +kernel
theorem dX9_schedule_7 : decode cX9_schedule 7 = .ok (.sipush (-1003), 3) := by decide +kernel
theorem dX9_schedule_10 : decode cX9_schedule 10 = .ok (.ireturn, 1) := by decide +kernel
theorem dX9_schedule_11 : decode cX9_schedule 11 = .ok (.iconst 0, 1) := by decide +kernel
theorem dX9_schedule_12 : decode cX9_schedule 12 = .ok (.istore_n 1, 1) := by decide +kernel
theorem dX9_schedule_13 : decode cX9_schedule 13 = .ok (.iload_n 1, 1) := by decide +kernel
theorem dX9_schedule_14 : decode cX9_schedule 14 = .ok (.aload_n 0, 1) := by decide +kernel
theorem dX9_schedule_15 : decode cX9_schedule 15 = .ok (.getfield 160, 3) := by decide +kernel
theorem dX9_schedule_18 : decode cX9_schedule 18 = .ok (.if_icmp .ge 23, 3) := by decide +kernel
theorem dX9_schedule_21 : decode cX9_schedule 21 = .ok (.aload_n 0, 1) := by decide +kernel
theorem dX9_schedule_22 : decode cX9_schedule 22 = .ok (.iconst 4, 1) := by decide +kernel
theorem dX9_schedule_23 : decode cX9_schedule 23 = .ok (.iload_n 1, 1) := by decide +kernel
theorem dX9_schedule_24 : decode cX9_schedule 24 = .ok (.imul, 1) := by decide +kernel
theorem dX9_schedule_25 : decode cX9_schedule 25 = .ok (.invokevirtual 174, 3) := by decide +kernel
theorem dX9_schedule_28 : decode cX9_schedule 28 = .ok (.ifCond .ne 7, 3) := by decide +kernel
theorem dX9_schedule_31 : decode cX9_schedule 31 = .ok (.sipush (-1001), 3) := by decide +kernel
theorem dX9_schedule_34 : decode cX9_schedule 34 = .ok (.ireturn, 1) := by decide +kernel
theorem dX9_schedule_35 : decode cX9_schedule 35 = .ok (.iinc 1 1, 3) := by decide +kernel
theorem dX9_schedule_38 : decode cX9_schedule 38 = .ok (.goto (-25), 3) := by decide +kernel
theorem dX9_schedule_41 : decode cX9_schedule 41 = .ok (.aload_n 0, 1) := by decide +kernel
theorem dX9_schedule_42 : decode cX9_schedule 42 = .ok (.getfield 7, 3) := by decide +kernel
theorem dX9_schedule_45 : decode cX9_schedule 45 = .ok (.bipush 25, 2) := by decide +kernel
theorem dX9_schedule_47 : decode cX9_schedule 47 = .ok (.iaload, 1) := by decide +kernel
theorem dX9_schedule_48 : decode cX9_schedule 48 = .ok (.aload_n 0, 1) := by decide +kernel
theorem dX9_schedule_49 : decode cX9_schedule 49 = .ok (.getfield 160, 3) := by decide +kernel
theorem dX9_schedule_52 : decode cX9_schedule 52 = .ok (.iadd, 1) := by decide +kernel
theorem dX9_schedule_53 : decode cX9_schedule 53 = .ok (.bipush 24, 2) := by decide +kernel
theorem dX9_schedule_55 : decode cX9_schedule 55 = .ok (.if_icmp .le 7, 3) := by decide +kernel
theorem dX9_schedule_58 : decode cX9_schedule 58 = .ok (.sipush (-1002), 3) := by decide +kernel
theorem dX9_schedule_61 : decode cX9_schedule 61 = .ok (.ireturn, 1) := by decide +kernel
theorem dX9_schedule_62 : decode cX9_schedule 62 = .ok (.iconst 0, 1) := by decide +kernel
theorem dX9_schedule_63 : decode cX9_schedule 63 = .ok (.istore_n 1, 1) := by decide +kernel
theorem dX9_schedule_64 : decode cX9_schedule 64 = .ok (.iload_n 1, 1) := by decide +kernel
theorem dX9_schedule_65 : decode cX9_schedule 65 = .ok (.iconst 4, 1) := by decide +kernel
theorem dX9_schedule_66 : decode cX9_schedule 66 = .ok (.aload_n 0, 1) := by decide +kernel
theorem dX9_schedule_67 : decode cX9_schedule 67 = .ok (.getfield 160, 3) := by decide +kernel
theorem dX9_schedule_70 : decode cX9_schedule 70 = .ok (.imul, 1) := by decide +kernel
theorem dX9_schedule_71 : decode cX9_schedule 71 = .ok (.if_icmp .ge 35, 3) := by decide +kernel
theorem dX9_schedule_74 : decode cX9_schedule 74 = .ok (.aload_n 0, 1) := by decide +kernel
theorem dX9_schedule_75 : decode cX9_schedule 75 = .ok (.getfield 7, 3) := by decide +kernel
theorem dX9_schedule_78 : decode cX9_schedule 78 = .ok (.sipush 2388, 3) := by decide +kernel
theorem dX9_schedule_81 : decode cX9_schedule 81 = .ok (.iconst 4, 1) := by decide +kernel
theorem dX9_schedule_82 : decode cX9_schedule 82 = .ok (.aload_n 0, 1) := by decide +kernel
theorem dX9_schedule_83 : decode cX9_schedule 83 = .ok (.getfield 7, 3) := by decide +kernel
theorem dX9_schedule_86 : decode cX9_schedule 86 = .ok (.bipush 25, 2) := by decide +kernel
theorem dX9_schedule_88 : decode cX9_schedule 88 = .ok (.iaload, 1) := by decide +kernel
theorem dX9_schedule_89 : decode cX9_schedule 89 = .ok (.imul, 1) := by decide +kernel
theorem dX9_schedule_90 : decode cX9_schedule 90 = .ok (.iadd, 1) := by decide +kernel
theorem dX9_schedule_91 : decode cX9_schedule 91 = .ok (.iload_n 1, 1) := by decide +kernel
theorem dX9_schedule_92 : decode cX9_schedule 92 = .ok (.iadd, 1) := by decide +kernel
theorem dX9_schedule_93 : decode cX9_schedule 93 = .ok (.aload_n 0, 1) := by decide +kernel
theorem dX9_schedule_94 : decode cX9_schedule 94 = .ok (.getfield 32, 3) := by decide +kernel
theorem dX9_schedule_97 : decode cX9_schedule 97 = .ok (.iload_n 1, 1) := by decide +kernel
theorem dX9_schedule_98 : decode cX9_schedule 98 = .ok (.iaload, 1) := by decide +kernel
theorem dX9_schedule_99 : decode cX9_schedule 99 = .ok (.iastore, 1) := by decide +kernel
theorem dX9_schedule_100 : decode cX9_schedule 100 = .ok (.iinc 1 1, 3) := by decide +kernel
theorem dX9_schedule_103 : decode cX9_schedule 103 = .ok (.goto (-39), 3) := by decide +kernel
theorem dX9_schedule_106 : decode cX9_schedule 106 = .ok (.aload_n 0, 1) := by decide +kernel
theorem dX9_schedule_107 : decode cX9_schedule 107 = .ok (.getfield 7, 3) := by decide +kernel
theorem dX9_schedule_110 : decode cX9_schedule 110 = .ok (.bipush 25, 2) := by decide +kernel
theorem dX9_schedule_112 : decode cX9_schedule 112 = .ok (.dup2, 1) := by decide +kernel
theorem dX9_schedule_113 : decode cX9_schedule 113 = .ok (.iaload, 1) := by decide +kernel
theorem dX9_schedule_114 : decode cX9_schedule 114 = .ok (.aload_n 0, 1) := by decide +kernel
theorem dX9_schedule_115 : decode cX9_schedule 115 = .ok (.getfield 160, 3) := by decide +kernel
theorem dX9_schedule_118 : decode cX9_schedule 118 = .ok (.iadd, 1) := by decide +kernel
theorem dX9_schedule_119 : decode cX9_schedule 119 = .ok (.iastore, 1) := by decide +kernel
theorem dX9_schedule_120 : decode cX9_schedule 120 = .ok (.aload_n 0, 1) := by decide +kernel
theorem dX9_schedule_121 : decode cX9_schedule 121 = .ok (.getfield 160, 3) := by decide +kernel
theorem dX9_schedule_124 : decode cX9_schedule 124 = .ok (.ireturn, 1) := by decide +kernel
theorem dX9_scheduled_0 : decode cX9_scheduled 0 = .ok (.aload_n 0, 1) := by decide +kernel
theorem dX9_scheduled_1 : decode cX9_scheduled 1 = .ok (.getfield 7, 3) := by decide +kernel
theorem dX9_scheduled_4 : decode cX9_scheduled 4 = .ok (.bipush 25, 2) := by decide +kernel
theorem dX9_scheduled_6 : decode cX9_scheduled 6 = .ok (.iaload, 1) := by decide +kernel
theorem dX9_scheduled_7 : decode cX9_scheduled 7 = .ok (.ireturn, 1) := by decide +kernel
theorem dX9_keep_0 : decode cX9_keep 0 = .ok (.iload_n 1, 1) := by decide +kernel
theorem dX9_keep_1 : decode cX9_keep 1 = .ok (.iconst 0, 1) := by decide +kernel
theorem dX9_keep_2 : decode cX9_keep 2 = .ok (.iconst 1, 1) := by decide +kernel
theorem dX9_keep_3 : decode cX9_keep 3 = .ok (.invokestatic 35, 3) := by decide +kernel
theorem dX9_keep_6 : decode cX9_keep 6 = .ok (.ifCond .ne 7, 3) := by decide +kernel
theorem dX9_keep_9 : decode cX9_keep 9 = .ok (.sipush (-1001), 3) := by decide +kernel
theorem dX9_keep_12 : decode cX9_keep 12 = .ok (.ireturn, 1) := by decide +kernel
theorem dX9_keep_13 : decode cX9_keep 13 = .ok (.iconst 0, 1) := by decide +kernel
theorem dX9_keep_14 : decode cX9_keep 14 = .ok (.istore_n 2, 1) := by decide +kernel
theorem dX9_keep_15 : decode cX9_keep 15 = .ok (.iload_n 2, 1) := by decide +kernel
theorem dX9_keep_16 : decode cX9_keep 16 = .ok (.sipush 2484, 3) := by decide +kernel
theorem dX9_keep_19 : decode cX9_keep 19 = .ok (.if_icmp .ge 27, 3) := by decide +kernel
theorem dX9_keep_22 : decode cX9_keep 22 = .ok (.aload_n 0, 1) := by decide +kernel
theorem dX9_keep_23 : decode cX9_keep 23 = .ok (.getfield 16, 3) := by decide +kernel
theorem dX9_keep_26 : decode cX9_keep 26 = .ok (.sipush 2484, 3) := by decide +kernel
theorem dX9_keep_29 : decode cX9_keep 29 = .ok (.iload_n 1, 1) := by decide +kernel
theorem dX9_keep_30 : decode cX9_keep 30 = .ok (.imul, 1) := by decide +kernel
theorem dX9_keep_31 : decode cX9_keep 31 = .ok (.iload_n 2, 1) := by decide +kernel
theorem dX9_keep_32 : decode cX9_keep 32 = .ok (.iadd, 1) := by decide +kernel
theorem dX9_keep_33 : decode cX9_keep 33 = .ok (.aload_n 0, 1) := by decide +kernel
theorem dX9_keep_34 : decode cX9_keep 34 = .ok (.getfield 7, 3) := by decide +kernel
theorem dX9_keep_37 : decode cX9_keep 37 = .ok (.iload_n 2, 1) := by decide +kernel
theorem dX9_keep_38 : decode cX9_keep 38 = .ok (.iaload, 1) := by decide +kernel
theorem dX9_keep_39 : decode cX9_keep 39 = .ok (.iastore, 1) := by decide +kernel
theorem dX9_keep_40 : decode cX9_keep 40 = .ok (.iinc 2 1, 3) := by decide +kernel
theorem dX9_keep_43 : decode cX9_keep 43 = .ok (.goto (-28), 3) := by decide +kernel
theorem dX9_keep_46 : decode cX9_keep 46 = .ok (.aload_n 0, 1) := by decide +kernel
theorem dX9_keep_47 : decode cX9_keep 47 = .ok (.getfield 19, 3) := by decide +kernel
theorem dX9_keep_50 : decode cX9_keep 50 = .ok (.iload_n 1, 1) := by decide +kernel
theorem dX9_keep_51 : decode cX9_keep 51 = .ok (.iconst 1, 1) := by decide +kernel
theorem dX9_keep_52 : decode cX9_keep 52 = .ok (.bastore, 1) := by decide +kernel
theorem dX9_keep_53 : decode cX9_keep 53 = .ok (.aload_n 0, 1) := by decide +kernel
theorem dX9_keep_54 : decode cX9_keep 54 = .ok (.getfield 7, 3) := by decide +kernel
theorem dX9_keep_57 : decode cX9_keep 57 = .ok (.bipush 9, 2) := by decide +kernel
theorem dX9_keep_59 : decode cX9_keep 59 = .ok (.iaload, 1) := by decide +kernel
theorem dX9_keep_60 : decode cX9_keep 60 = .ok (.ireturn, 1) := by decide +kernel
theorem dX9_restore_0 : decode cX9_restore 0 = .ok (.iload_n 1, 1) := by decide +kernel
theorem dX9_restore_1 : decode cX9_restore 1 = .ok (.iconst 0, 1) := by decide +kernel
theorem dX9_restore_2 : decode cX9_restore 2 = .ok (.iconst 1, 1) := by decide +kernel
theorem dX9_restore_3 : decode cX9_restore 3 = .ok (.invokestatic 35, 3) := by decide +kernel
theorem dX9_restore_6 : decode cX9_restore 6 = .ok (.ifCond .ne 7, 3) := by decide +kernel
theorem dX9_restore_9 : decode cX9_restore 9 = .ok (.sipush (-1001), 3) := by decide +kernel
theorem dX9_restore_12 : decode cX9_restore 12 = .ok (.ireturn, 1) := by decide +kernel
theorem dX9_restore_13 : decode cX9_restore 13 = .ok (.aload_n 0, 1) := by decide +kernel
theorem dX9_restore_14 : decode cX9_restore 14 = .ok (.getfield 19, 3) := by decide +kernel
theorem dX9_restore_17 : decode cX9_restore 17 = .ok (.iload_n 1, 1) := by decide +kernel
theorem dX9_restore_18 : decode cX9_restore 18 = .ok (.baload, 1) := by decide +kernel
theorem dX9_restore_19 : decode cX9_restore 19 = .ok (.ifCond .ne 7, 3) := by decide +kernel
theorem dX9_restore_22 : decode cX9_restore 22 = .ok (.sipush (-1003), 3) := by decide +kernel
theorem dX9_restore_25 : decode cX9_restore 25 = .ok (.ireturn, 1) := by decide +kernel
theorem dX9_restore_26 : decode cX9_restore 26 = .ok (.iconst 0, 1) := by decide +kernel
theorem dX9_restore_27 : decode cX9_restore 27 = .ok (.istore_n 2, 1) := by decide +kernel
theorem dX9_restore_28 : decode cX9_restore 28 = .ok (.iload_n 2, 1) := by decide +kernel
theorem dX9_restore_29 : decode cX9_restore 29 = .ok (.sipush 2484, 3) := by decide +kernel
theorem dX9_restore_32 : decode cX9_restore 32 = .ok (.if_icmp .ge 27, 3) := by decide +kernel
theorem dX9_restore_35 : decode cX9_restore 35 = .ok (.aload_n 0, 1) := by decide +kernel
theorem dX9_restore_36 : decode cX9_restore 36 = .ok (.getfield 7, 3) := by decide +kernel
theorem dX9_restore_39 : decode cX9_restore 39 = .ok (.iload_n 2, 1) := by decide +kernel
theorem dX9_restore_40 : decode cX9_restore 40 = .ok (.aload_n 0, 1) := by decide +kernel
theorem dX9_restore_41 : decode cX9_restore 41 = .ok (.getfield 16, 3) := by decide +kernel
theorem dX9_restore_44 : decode cX9_restore 44 = .ok (.sipush 2484, 3) := by decide +kernel
theorem dX9_restore_47 : decode cX9_restore 47 = .ok (.iload_n 1, 1) := by decide +kernel
theorem dX9_restore_48 : decode cX9_restore 48 = .ok (.imul, 1) := by decide +kernel
theorem dX9_restore_49 : decode cX9_restore 49 = .ok (.iload_n 2, 1) := by decide +kernel
theorem dX9_restore_50 : decode cX9_restore 50 = .ok (.iadd, 1) := by decide +kernel
theorem dX9_restore_51 : decode cX9_restore 51 = .ok (.iaload, 1) := by decide +kernel
theorem dX9_restore_52 : decode cX9_restore 52 = .ok (.iastore, 1) := by decide +kernel
theorem dX9_restore_53 : decode cX9_restore 53 = .ok (.iinc 2 1, 3) := by decide +kernel
theorem dX9_restore_56 : decode cX9_restore 56 = .ok (.goto (-28), 3) := by decide +kernel
theorem dX9_restore_59 : decode cX9_restore 59 = .ok (.aload_n 0, 1) := by decide +kernel
theorem dX9_restore_60 : decode cX9_restore 60 = .ok (.getfield 7, 3) := by decide +kernel
theorem dX9_restore_63 : decode cX9_restore 63 = .ok (.bipush 9, 2) := by decide +kernel
theorem dX9_restore_65 : decode cX9_restore 65 = .ok (.iaload, 1) := by decide +kernel
theorem dX9_restore_66 : decode cX9_restore 66 = .ok (.ireturn, 1) := by decide +kernel
theorem dX9_more_0 : decode cX9_more 0 = .ok (.ldc2_w 177, 3) := by decide +kernel
theorem dX9_more_3 : decode cX9_more 3 = .ok (.lload_n 0, 1) := by decide +kernel
theorem dX9_more_4 : decode cX9_more 4 = .ok (.lmul, 1) := by decide +kernel
theorem dX9_more_5 : decode cX9_more 5 = .ok (.iload_n 2, 1) := by decide +kernel
theorem dX9_more_6 : decode cX9_more 6 = .ok (.i2l, 1) := by decide +kernel
theorem dX9_more_7 : decode cX9_more 7 = .ok (.ladd, 1) := by decide +kernel
theorem dX9_more_8 : decode cX9_more 8 = .ok (.lreturn, 1) := by decide +kernel
theorem dX9_checksum_0 : decode cX9_checksum 0 = .ok (.ldc2_w 179, 3) := by decide +kernel
theorem dX9_checksum_3 : decode cX9_checksum 3 = .ok (.aload_n 0, 1) := by decide +kernel
theorem dX9_checksum_4 : decode cX9_checksum 4 = .ok (.getfield 7, 3) := by decide +kernel
theorem dX9_checksum_7 : decode cX9_checksum 7 = .ok (.bipush 9, 2) := by decide +kernel
theorem dX9_checksum_9 : decode cX9_checksum 9 = .ok (.iaload, 1) := by decide +kernel
theorem dX9_checksum_10 : decode cX9_checksum 10 = .ok (.invokestatic 181, 3) := by decide +kernel
theorem dX9_checksum_13 : decode cX9_checksum 13 = .ok (.aload_n 0, 1) := by decide +kernel
theorem dX9_checksum_14 : decode cX9_checksum 14 = .ok (.invokevirtual 185, 3) := by decide +kernel
theorem dX9_checksum_17 : decode cX9_checksum 17 = .ok (.invokestatic 181, 3) := by decide +kernel
theorem dX9_checksum_20 : decode cX9_checksum 20 = .ok (.aload_n 0, 1) := by decide +kernel
theorem dX9_checksum_21 : decode cX9_checksum 21 = .ok (.getfield 7, 3) := by decide +kernel
theorem dX9_checksum_24 : decode cX9_checksum 24 = .ok (.bipush 12, 2) := by decide +kernel
theorem dX9_checksum_26 : decode cX9_checksum 26 = .ok (.iaload, 1) := by decide +kernel
theorem dX9_checksum_27 : decode cX9_checksum 27 = .ok (.invokestatic 181, 3) := by decide +kernel
theorem dX9_checksum_30 : decode cX9_checksum 30 = .ok (.lstore_n 1, 1) := by decide +kernel
theorem dX9_checksum_31 : decode cX9_checksum 31 = .ok (.lload_n 1, 1) := by decide +kernel
theorem dX9_checksum_32 : decode cX9_checksum 32 = .ok (.aload_n 0, 1) := by decide +kernel
theorem dX9_checksum_33 : decode cX9_checksum 33 = .ok (.invokevirtual 188, 3) := by decide +kernel
theorem dX9_checksum_36 : decode cX9_checksum 36 = .ok (.invokestatic 181, 3) := by decide +kernel
theorem dX9_checksum_39 : decode cX9_checksum 39 = .ok (.aload_n 0, 1) := by decide +kernel
theorem dX9_checksum_40 : decode cX9_checksum 40 = .ok (.invokevirtual 191, 3) := by decide +kernel
theorem dX9_checksum_43 : decode cX9_checksum 43 = .ok (.invokestatic 181, 3) := by decide +kernel
theorem dX9_checksum_46 : decode cX9_checksum 46 = .ok (.aload_n 0, 1) := by decide +kernel
theorem dX9_checksum_47 : decode cX9_checksum 47 = .ok (.invokevirtual 110, 3) := by decide +kernel
theorem dX9_checksum_50 : decode cX9_checksum 50 = .ok (.invokestatic 181, 3) := by decide +kernel
theorem dX9_checksum_53 : decode cX9_checksum 53 = .ok (.lstore_n 1, 1) := by decide +kernel
theorem dX9_checksum_54 : decode cX9_checksum 54 = .ok (.lload_n 1, 1) := by decide +kernel
theorem dX9_checksum_55 : decode cX9_checksum 55 = .ok (.aload_n 0, 1) := by decide +kernel
theorem dX9_checksum_56 : decode cX9_checksum 56 = .ok (.invokevirtual 194, 3) := by decide +kernel
theorem dX9_checksum_59 : decode cX9_checksum 59 = .ok (.invokestatic 181, 3) := by decide +kernel
theorem dX9_checksum_62 : decode cX9_checksum 62 = .ok (.aload_n 0, 1) := by decide +kernel
theorem dX9_checksum_63 : decode cX9_checksum 63 = .ok (.getfield 7, 3) := by decide +kernel
theorem dX9_checksum_66 : decode cX9_checksum 66 = .ok (.bipush 24, 2) := by decide +kernel
theorem dX9_checksum_68 : decode cX9_checksum 68 = .ok (.iaload, 1) := by decide +kernel
theorem dX9_checksum_69 : decode cX9_checksum 69 = .ok (.invokestatic 181, 3) := by decide +kernel
theorem dX9_checksum_72 : decode cX9_checksum 72 = .ok (.lstore_n 1, 1) := by decide +kernel
theorem dX9_checksum_73 : decode cX9_checksum 73 = .ok (.lload_n 1, 1) := by decide +kernel
theorem dX9_checksum_74 : decode cX9_checksum 74 = .ok (.aload_n 0, 1) := by decide +kernel
theorem dX9_checksum_75 : decode cX9_checksum 75 = .ok (.getfield 7, 3) := by decide +kernel
theorem dX9_checksum_78 : decode cX9_checksum 78 = .ok (.bipush 19, 2) := by decide +kernel
theorem dX9_checksum_80 : decode cX9_checksum 80 = .ok (.iaload, 1) := by decide +kernel
theorem dX9_checksum_81 : decode cX9_checksum 81 = .ok (.invokestatic 181, 3) := by decide +kernel
theorem dX9_checksum_84 : decode cX9_checksum 84 = .ok (.aload_n 0, 1) := by decide +kernel
theorem dX9_checksum_85 : decode cX9_checksum 85 = .ok (.getfield 7, 3) := by decide +kernel
theorem dX9_checksum_88 : decode cX9_checksum 88 = .ok (.bipush 20, 2) := by decide +kernel
theorem dX9_checksum_90 : decode cX9_checksum 90 = .ok (.iaload, 1) := by decide +kernel
theorem dX9_checksum_91 : decode cX9_checksum 91 = .ok (.invokestatic 181, 3) := by decide +kernel
theorem dX9_checksum_94 : decode cX9_checksum 94 = .ok (.aload_n 0, 1) := by decide +kernel
theorem dX9_checksum_95 : decode cX9_checksum 95 = .ok (.getfield 7, 3) := by decide +kernel
theorem dX9_checksum_98 : decode cX9_checksum 98 = .ok (.bipush 21, 2) := by decide +kernel
theorem dX9_checksum_100 : decode cX9_checksum 100 = .ok (.iaload, 1) := by decide +kernel
theorem dX9_checksum_101 : decode cX9_checksum 101 = .ok (.invokestatic 181, 3) := by decide +kernel
theorem dX9_checksum_104 : decode cX9_checksum 104 = .ok (.lstore_n 1, 1) := by decide +kernel
theorem dX9_checksum_105 : decode cX9_checksum 105 = .ok (.lload_n 1, 1) := by decide +kernel
theorem dX9_checksum_106 : decode cX9_checksum 106 = .ok (.aload_n 0, 1) := by decide +kernel
theorem dX9_checksum_107 : decode cX9_checksum 107 = .ok (.getfield 7, 3) := by decide +kernel
theorem dX9_checksum_110 : decode cX9_checksum 110 = .ok (.bipush 15, 2) := by decide +kernel
theorem dX9_checksum_112 : decode cX9_checksum 112 = .ok (.iaload, 1) := by decide +kernel
theorem dX9_checksum_113 : decode cX9_checksum 113 = .ok (.invokestatic 181, 3) := by decide +kernel
theorem dX9_checksum_116 : decode cX9_checksum 116 = .ok (.aload_n 0, 1) := by decide +kernel
theorem dX9_checksum_117 : decode cX9_checksum 117 = .ok (.getfield 7, 3) := by decide +kernel
theorem dX9_checksum_120 : decode cX9_checksum 120 = .ok (.bipush 16, 2) := by decide +kernel
theorem dX9_checksum_122 : decode cX9_checksum 122 = .ok (.iaload, 1) := by decide +kernel
theorem dX9_checksum_123 : decode cX9_checksum 123 = .ok (.invokestatic 181, 3) := by decide +kernel
theorem dX9_checksum_126 : decode cX9_checksum 126 = .ok (.aload_n 0, 1) := by decide +kernel
theorem dX9_checksum_127 : decode cX9_checksum 127 = .ok (.getfield 7, 3) := by decide +kernel
theorem dX9_checksum_130 : decode cX9_checksum 130 = .ok (.bipush 17, 2) := by decide +kernel
theorem dX9_checksum_132 : decode cX9_checksum 132 = .ok (.iaload, 1) := by decide +kernel
theorem dX9_checksum_133 : decode cX9_checksum 133 = .ok (.invokestatic 181, 3) := by decide +kernel
theorem dX9_checksum_136 : decode cX9_checksum 136 = .ok (.lstore_n 1, 1) := by decide +kernel
theorem dX9_checksum_137 : decode cX9_checksum 137 = .ok (.lload_n 1, 1) := by decide +kernel
theorem dX9_checksum_138 : decode cX9_checksum 138 = .ok (.aload_n 0, 1) := by decide +kernel
theorem dX9_checksum_139 : decode cX9_checksum 139 = .ok (.getfield 7, 3) := by decide +kernel
theorem dX9_checksum_142 : decode cX9_checksum 142 = .ok (.bipush 18, 2) := by decide +kernel
theorem dX9_checksum_144 : decode cX9_checksum 144 = .ok (.iaload, 1) := by decide +kernel
theorem dX9_checksum_145 : decode cX9_checksum 145 = .ok (.invokestatic 181, 3) := by decide +kernel
theorem dX9_checksum_148 : decode cX9_checksum 148 = .ok (.aload_n 0, 1) := by decide +kernel
theorem dX9_checksum_149 : decode cX9_checksum 149 = .ok (.getfield 7, 3) := by decide +kernel
theorem dX9_checksum_152 : decode cX9_checksum 152 = .ok (.bipush 14, 2) := by decide +kernel
theorem dX9_checksum_154 : decode cX9_checksum 154 = .ok (.iaload, 1) := by decide +kernel
theorem dX9_checksum_155 : decode cX9_checksum 155 = .ok (.invokestatic 181, 3) := by decide +kernel
theorem dX9_checksum_158 : decode cX9_checksum 158 = .ok (.aload_n 0, 1) := by decide +kernel
theorem dX9_checksum_159 : decode cX9_checksum 159 = .ok (.getfield 7, 3) := by decide +kernel
theorem dX9_checksum_162 : decode cX9_checksum 162 = .ok (.bipush 25, 2) := by decide +kernel
theorem dX9_checksum_164 : decode cX9_checksum 164 = .ok (.iaload, 1) := by decide +kernel
theorem dX9_checksum_165 : decode cX9_checksum 165 = .ok (.invokestatic 181, 3) := by decide +kernel
theorem dX9_checksum_168 : decode cX9_checksum 168 = .ok (.lstore_n 1, 1) := by decide +kernel
theorem dX9_checksum_169 : decode cX9_checksum 169 = .ok (.iconst 1, 1) := by decide +kernel
theorem dX9_checksum_170 : decode cX9_checksum 170 = .ok (.istore_n 3, 1) := by decide +kernel
theorem dX9_checksum_171 : decode cX9_checksum 171 = .ok (.iload_n 3, 1) := by decide +kernel
theorem dX9_checksum_172 : decode cX9_checksum 172 = .ok (.bipush 64, 2) := by decide +kernel
theorem dX9_checksum_174 : decode cX9_checksum 174 = .ok (.if_icmp .gt 19, 3) := by decide +kernel
theorem dX9_checksum_177 : decode cX9_checksum 177 = .ok (.lload_n 1, 1) := by decide +kernel
theorem dX9_checksum_178 : decode cX9_checksum 178 = .ok (.aload_n 0, 1) := by decide +kernel
theorem dX9_checksum_179 : decode cX9_checksum 179 = .ok (.iload_n 3, 1) := by decide +kernel
theorem dX9_checksum_180 : decode cX9_checksum 180 = .ok (.invokevirtual 197, 3) := by decide +kernel
theorem dX9_checksum_183 : decode cX9_checksum 183 = .ok (.invokestatic 181, 3) := by decide +kernel
theorem dX9_checksum_186 : decode cX9_checksum 186 = .ok (.lstore_n 1, 1) := by decide +kernel
theorem dX9_checksum_187 : decode cX9_checksum 187 = .ok (.iinc 3 1, 3) := by decide +kernel
theorem dX9_checksum_190 : decode cX9_checksum 190 = .ok (.goto (-19), 3) := by decide +kernel
theorem dX9_checksum_193 : decode cX9_checksum 193 = .ok (.iconst 1, 1) := by decide +kernel
theorem dX9_checksum_194 : decode cX9_checksum 194 = .ok (.istore_n 3, 1) := by decide +kernel
theorem dX9_checksum_195 : decode cX9_checksum 195 = .ok (.iload_n 3, 1) := by decide +kernel
theorem dX9_checksum_196 : decode cX9_checksum 196 = .ok (.bipush 16, 2) := by decide +kernel
theorem dX9_checksum_198 : decode cX9_checksum 198 = .ok (.if_icmp .gt 19, 3) := by decide +kernel
theorem dX9_checksum_201 : decode cX9_checksum 201 = .ok (.lload_n 1, 1) := by decide +kernel
theorem dX9_checksum_202 : decode cX9_checksum 202 = .ok (.aload_n 0, 1) := by decide +kernel
theorem dX9_checksum_203 : decode cX9_checksum 203 = .ok (.iload_n 3, 1) := by decide +kernel
theorem dX9_checksum_204 : decode cX9_checksum 204 = .ok (.invokevirtual 200, 3) := by decide +kernel
theorem dX9_checksum_207 : decode cX9_checksum 207 = .ok (.invokestatic 181, 3) := by decide +kernel
theorem dX9_checksum_210 : decode cX9_checksum 210 = .ok (.lstore_n 1, 1) := by decide +kernel
theorem dX9_checksum_211 : decode cX9_checksum 211 = .ok (.iinc 3 1, 3) := by decide +kernel
theorem dX9_checksum_214 : decode cX9_checksum 214 = .ok (.goto (-19), 3) := by decide +kernel
theorem dX9_checksum_217 : decode cX9_checksum 217 = .ok (.iconst 0, 1) := by decide +kernel
theorem dX9_checksum_218 : decode cX9_checksum 218 = .ok (.istore_n 3, 1) := by decide +kernel
theorem dX9_checksum_219 : decode cX9_checksum 219 = .ok (.iload_n 3, 1) := by decide +kernel
theorem dX9_checksum_220 : decode cX9_checksum 220 = .ok (.bipush 100, 2) := by decide +kernel
theorem dX9_checksum_222 : decode cX9_checksum 222 = .ok (.if_icmp .ge 23, 3) := by decide +kernel
theorem dX9_checksum_225 : decode cX9_checksum 225 = .ok (.lload_n 1, 1) := by decide +kernel
theorem dX9_checksum_226 : decode cX9_checksum 226 = .ok (.aload_n 0, 1) := by decide +kernel
theorem dX9_checksum_227 : decode cX9_checksum 227 = .ok (.getfield 7, 3) := by decide +kernel
theorem dX9_checksum_230 : decode cX9_checksum 230 = .ok (.bipush 30, 2) := by decide +kernel
theorem dX9_checksum_232 : decode cX9_checksum 232 = .ok (.iload_n 3, 1) := by decide +kernel
theorem dX9_checksum_233 : decode cX9_checksum 233 = .ok (.iadd, 1) := by decide +kernel
theorem dX9_checksum_234 : decode cX9_checksum 234 = .ok (.iaload, 1) := by decide +kernel
theorem dX9_checksum_235 : decode cX9_checksum 235 = .ok (.invokestatic 181, 3) := by decide +kernel
theorem dX9_checksum_238 : decode cX9_checksum 238 = .ok (.lstore_n 1, 1) := by decide +kernel
theorem dX9_checksum_239 : decode cX9_checksum 239 = .ok (.iinc 3 1, 3) := by decide +kernel
theorem dX9_checksum_242 : decode cX9_checksum 242 = .ok (.goto (-23), 3) := by decide +kernel
theorem dX9_checksum_245 : decode cX9_checksum 245 = .ok (.lload_n 1, 1) := by decide +kernel
theorem dX9_checksum_246 : decode cX9_checksum 246 = .ok (.lreturn, 1) := by decide +kernel
end
section
theorem dL_law_0 : decode cL_law 0 = .ok (.new 7, 3) := by decide +kernel
theorem dL_law_3 : decode cL_law 3 = .ok (.dup, 1) := by decide +kernel
theorem dL_law_4 : decode cL_law 4 = .ok (.invokespecial 9, 3) := by decide +kernel
theorem dL_law_7 : decode cL_law 7 = .ok (.astore_n 1, 1) := by decide +kernel
theorem dL_law_8 : decode cL_law 8 = .ok (.new 10, 3) := by decide +kernel
theorem dL_law_11 : decode cL_law 11 = .ok (.dup, 1) := by decide +kernel
theorem dL_law_12 : decode cL_law 12 = .ok (.invokespecial 12, 3) := by decide +kernel
theorem dL_law_15 : decode cL_law 15 = .ok (.astore_n 2, 1) := by decide +kernel
theorem dL_law_16 : decode cL_law 16 = .ok (.iconst 0, 1) := by decide +kernel
theorem dL_law_17 : decode cL_law 17 = .ok (.istore_n 3, 1) := by decide +kernel
theorem dL_law_18 : decode cL_law 18 = .ok (.iload_n 3, 1) := by decide +kernel
theorem dL_law_19 : decode cL_law 19 = .ok (.aload_n 0, 1) := by decide +kernel
theorem dL_law_20 : decode cL_law 20 = .ok (.arraylength, 1) := by decide +kernel
theorem dL_law_21 : decode cL_law 21 = .ok (.iconst 5, 1) := by decide +kernel
theorem dL_law_22 : decode cL_law 22 = .ok (.isub, 1) := by decide +kernel
theorem dL_law_23 : decode cL_law 23 = .ok (.if_icmp .gt 1210, 3) := by decide +kernel
theorem dL_law_26 : decode cL_law 26 = .ok (.aload_n 0, 1) := by decide +kernel
theorem dL_law_27 : decode cL_law 27 = .ok (.iload_n 3, 1) := by decide +kernel
theorem dL_law_28 : decode cL_law 28 = .ok (.iaload, 1) := by decide +kernel
theorem dL_law_29 : decode cL_law 29 = .ok (.bipush 63, 2) := by decide +kernel
theorem dL_law_31 : decode cL_law 31 = .ok (.iand, 1) := by decide +kernel
theorem dL_law_32 : decode cL_law 32 = .ok (.tableswitch 1195 0 43 #[192, 215, 248, 281, 304, 327, 350, 389, 412, 471, 494, 507, 520, 543, 556, 569, 582, 605, 628, 661, 720, 743, 812, 825, 848, 861, 874, 897, 910, 923, 936, 949, 988, 1001, 1014, 1037, 1060, 1083, 1096, 1109, 1122, 1135, 1158, 1181], 192) := by decide +kernel
theorem dL_law_224 : decode cL_law 224 = .ok (.aload_n 1, 1) := by decide +kernel
theorem dL_law_225 : decode cL_law 225 = .ok (.aload_n 0, 1) := by decide +kernel
theorem dL_law_226 : decode cL_law 226 = .ok (.iload_n 3, 1) := by decide +kernel
theorem dL_law_227 : decode cL_law 227 = .ok (.iconst 1, 1) := by decide +kernel
theorem dL_law_228 : decode cL_law 228 = .ok (.iadd, 1) := by decide +kernel
theorem dL_law_229 : decode cL_law 229 = .ok (.iaload, 1) := by decide +kernel
theorem dL_law_230 : decode cL_law 230 = .ok (.invokevirtual 13, 3) := by decide +kernel
theorem dL_law_233 : decode cL_law 233 = .ok (.aload_n 2, 1) := by decide +kernel
theorem dL_law_234 : decode cL_law 234 = .ok (.aload_n 0, 1) := by decide +kernel
theorem dL_law_235 : decode cL_law 235 = .ok (.iload_n 3, 1) := by decide +kernel
theorem dL_law_236 : decode cL_law 236 = .ok (.iconst 1, 1) := by decide +kernel
theorem dL_law_237 : decode cL_law 237 = .ok (.iadd, 1) := by decide +kernel
theorem dL_law_238 : decode cL_law 238 = .ok (.iaload, 1) := by decide +kernel
theorem dL_law_239 : decode cL_law 239 = .ok (.invokevirtual 17, 3) := by decide +kernel
theorem dL_law_242 : decode cL_law 242 = .ok (.if_icmp .eq 985, 3) := by decide +kernel
theorem dL_law_245 : decode cL_law 245 = .ok (.iconst 0, 1) := by decide +kernel
theorem dL_law_246 : decode cL_law 246 = .ok (.ireturn, 1) := by decide +kernel
theorem dL_law_247 : decode cL_law 247 = .ok (.aload_n 1, 1) := by decide +kernel
theorem dL_law_248 : decode cL_law 248 = .ok (.aload_n 0, 1) := by decide +kernel
theorem dL_law_249 : decode cL_law 249 = .ok (.iload_n 3, 1) := by decide +kernel
theorem dL_law_250 : decode cL_law 250 = .ok (.iconst 1, 1) := by decide +kernel
theorem dL_law_251 : decode cL_law 251 = .ok (.iadd, 1) := by decide +kernel
theorem dL_law_252 : decode cL_law 252 = .ok (.iaload, 1) := by decide +kernel
theorem dL_law_253 : decode cL_law 253 = .ok (.aload_n 0, 1) := by decide +kernel
theorem dL_law_254 : decode cL_law 254 = .ok (.iload_n 3, 1) := by decide +kernel
theorem dL_law_255 : decode cL_law 255 = .ok (.iconst 2, 1) := by decide +kernel
theorem dL_law_256 : decode cL_law 256 = .ok (.iadd, 1) := by decide +kernel
theorem dL_law_257 : decode cL_law 257 = .ok (.iaload, 1) := by decide +kernel
theorem dL_law_258 : decode cL_law 258 = .ok (.invokevirtual 18, 3) := by decide +kernel
theorem dL_law_261 : decode cL_law 261 = .ok (.aload_n 2, 1) := by decide +kernel
theorem dL_law_262 : decode cL_law 262 = .ok (.aload_n 0, 1) := by decide +kernel
theorem dL_law_263 : decode cL_law 263 = .ok (.iload_n 3, 1) := by decide +kernel
theorem dL_law_264 : decode cL_law 264 = .ok (.iconst 1, 1) := by decide +kernel
theorem dL_law_265 : decode cL_law 265 = .ok (.iadd, 1) := by decide +kernel
theorem dL_law_266 : decode cL_law 266 = .ok (.iaload, 1) := by decide +kernel
theorem dL_law_267 : decode cL_law 267 = .ok (.aload_n 0, 1) := by decide +kernel
theorem dL_law_268 : decode cL_law 268 = .ok (.iload_n 3, 1) := by decide +kernel
theorem dL_law_269 : decode cL_law 269 = .ok (.iconst 2, 1) := by decide +kernel
theorem dL_law_270 : decode cL_law 270 = .ok (.iadd, 1) := by decide +kernel
theorem dL_law_271 : decode cL_law 271 = .ok (.iaload, 1) := by decide +kernel
theorem dL_law_272 : decode cL_law 272 = .ok (.invokevirtual 22, 3) := by decide +kernel
theorem dL_law_275 : decode cL_law 275 = .ok (.if_icmp .eq 952, 3) := by decide +kernel
theorem dL_law_278 : decode cL_law 278 = .ok (.iconst 0, 1) := by decide +kernel
theorem dL_law_279 : decode cL_law 279 = .ok (.ireturn, 1) := by decide +kernel
theorem dL_law_280 : decode cL_law 280 = .ok (.aload_n 1, 1) := by decide +kernel
theorem dL_law_281 : decode cL_law 281 = .ok (.aload_n 0, 1) := by decide +kernel
theorem dL_law_282 : decode cL_law 282 = .ok (.iload_n 3, 1) := by decide +kernel
theorem dL_law_283 : decode cL_law 283 = .ok (.iconst 1, 1) := by decide +kernel
theorem dL_law_284 : decode cL_law 284 = .ok (.iadd, 1) := by decide +kernel
theorem dL_law_285 : decode cL_law 285 = .ok (.iaload, 1) := by decide +kernel
theorem dL_law_286 : decode cL_law 286 = .ok (.aload_n 0, 1) := by decide +kernel
theorem dL_law_287 : decode cL_law 287 = .ok (.iload_n 3, 1) := by decide +kernel
theorem dL_law_288 : decode cL_law 288 = .ok (.iconst 2, 1) := by decide +kernel
theorem dL_law_289 : decode cL_law 289 = .ok (.iadd, 1) := by decide +kernel
theorem dL_law_290 : decode cL_law 290 = .ok (.iaload, 1) := by decide +kernel
theorem dL_law_291 : decode cL_law 291 = .ok (.invokevirtual 23, 3) := by decide +kernel
theorem dL_law_294 : decode cL_law 294 = .ok (.aload_n 2, 1) := by decide +kernel
theorem dL_law_295 : decode cL_law 295 = .ok (.aload_n 0, 1) := by decide +kernel
theorem dL_law_296 : decode cL_law 296 = .ok (.iload_n 3, 1) := by decide +kernel
theorem dL_law_297 : decode cL_law 297 = .ok (.iconst 1, 1) := by decide +kernel
theorem dL_law_298 : decode cL_law 298 = .ok (.iadd, 1) := by decide +kernel
theorem dL_law_299 : decode cL_law 299 = .ok (.iaload, 1) := by decide +kernel
theorem dL_law_300 : decode cL_law 300 = .ok (.aload_n 0, 1) := by decide +kernel
theorem dL_law_301 : decode cL_law 301 = .ok (.iload_n 3, 1) := by decide +kernel
theorem dL_law_302 : decode cL_law 302 = .ok (.iconst 2, 1) := by decide +kernel
theorem dL_law_303 : decode cL_law 303 = .ok (.iadd, 1) := by decide +kernel
theorem dL_law_304 : decode cL_law 304 = .ok (.iaload, 1) := by decide +kernel
theorem dL_law_305 : decode cL_law 305 = .ok (.invokevirtual 26, 3) := by decide +kernel
theorem dL_law_308 : decode cL_law 308 = .ok (.if_icmp .eq 919, 3) := by decide +kernel
theorem dL_law_311 : decode cL_law 311 = .ok (.iconst 0, 1) := by decide +kernel
theorem dL_law_312 : decode cL_law 312 = .ok (.ireturn, 1) := by decide +kernel
theorem dL_law_313 : decode cL_law 313 = .ok (.aload_n 1, 1) := by decide +kernel
theorem dL_law_314 : decode cL_law 314 = .ok (.aload_n 0, 1) := by decide +kernel
theorem dL_law_315 : decode cL_law 315 = .ok (.iload_n 3, 1) := by decide +kernel
theorem dL_law_316 : decode cL_law 316 = .ok (.iconst 1, 1) := by decide +kernel
theorem dL_law_317 : decode cL_law 317 = .ok (.iadd, 1) := by decide +kernel
theorem dL_law_318 : decode cL_law 318 = .ok (.iaload, 1) := by decide +kernel
theorem dL_law_319 : decode cL_law 319 = .ok (.invokevirtual 27, 3) := by decide +kernel
theorem dL_law_322 : decode cL_law 322 = .ok (.aload_n 2, 1) := by decide +kernel
theorem dL_law_323 : decode cL_law 323 = .ok (.aload_n 0, 1) := by decide +kernel
theorem dL_law_324 : decode cL_law 324 = .ok (.iload_n 3, 1) := by decide +kernel
theorem dL_law_325 : decode cL_law 325 = .ok (.iconst 1, 1) := by decide +kernel
theorem dL_law_326 : decode cL_law 326 = .ok (.iadd, 1) := by decide +kernel
theorem dL_law_327 : decode cL_law 327 = .ok (.iaload, 1) := by decide +kernel
theorem dL_law_328 : decode cL_law 328 = .ok (.invokevirtual 30, 3) := by decide +kernel
theorem dL_law_331 : decode cL_law 331 = .ok (.if_icmp .eq 896, 3) := by decide +kernel
theorem dL_law_334 : decode cL_law 334 = .ok (.iconst 0, 1) := by decide +kernel
theorem dL_law_335 : decode cL_law 335 = .ok (.ireturn, 1) := by decide +kernel
theorem dL_law_336 : decode cL_law 336 = .ok (.aload_n 1, 1) := by decide +kernel
theorem dL_law_337 : decode cL_law 337 = .ok (.aload_n 0, 1) := by decide +kernel
theorem dL_law_338 : decode cL_law 338 = .ok (.iload_n 3, 1) := by decide +kernel
theorem dL_law_339 : decode cL_law 339 = .ok (.iconst 1, 1) := by decide +kernel
theorem dL_law_340 : decode cL_law 340 = .ok (.iadd, 1) := by decide +kernel
theorem dL_law_341 : decode cL_law 341 = .ok (.iaload, 1) := by decide +kernel
theorem dL_law_342 : decode cL_law 342 = .ok (.invokevirtual 31, 3) := by decide +kernel
theorem dL_law_345 : decode cL_law 345 = .ok (.aload_n 2, 1) := by decide +kernel
theorem dL_law_346 : decode cL_law 346 = .ok (.aload_n 0, 1) := by decide +kernel
theorem dL_law_347 : decode cL_law 347 = .ok (.iload_n 3, 1) := by decide +kernel
theorem dL_law_348 : decode cL_law 348 = .ok (.iconst 1, 1) := by decide +kernel
theorem dL_law_349 : decode cL_law 349 = .ok (.iadd, 1) := by decide +kernel
theorem dL_law_350 : decode cL_law 350 = .ok (.iaload, 1) := by decide +kernel
theorem dL_law_351 : decode cL_law 351 = .ok (.invokevirtual 34, 3) := by decide +kernel
theorem dL_law_354 : decode cL_law 354 = .ok (.if_icmp .eq 873, 3) := by decide +kernel
theorem dL_law_357 : decode cL_law 357 = .ok (.iconst 0, 1) := by decide +kernel
theorem dL_law_358 : decode cL_law 358 = .ok (.ireturn, 1) := by decide +kernel
theorem dL_law_359 : decode cL_law 359 = .ok (.aload_n 1, 1) := by decide +kernel
theorem dL_law_360 : decode cL_law 360 = .ok (.aload_n 0, 1) := by decide +kernel
theorem dL_law_361 : decode cL_law 361 = .ok (.iload_n 3, 1) := by decide +kernel
theorem dL_law_362 : decode cL_law 362 = .ok (.iconst 1, 1) := by decide +kernel
theorem dL_law_363 : decode cL_law 363 = .ok (.iadd, 1) := by decide +kernel
theorem dL_law_364 : decode cL_law 364 = .ok (.iaload, 1) := by decide +kernel
theorem dL_law_365 : decode cL_law 365 = .ok (.invokevirtual 35, 3) := by decide +kernel
theorem dL_law_368 : decode cL_law 368 = .ok (.aload_n 2, 1) := by decide +kernel
theorem dL_law_369 : decode cL_law 369 = .ok (.aload_n 0, 1) := by decide +kernel
theorem dL_law_370 : decode cL_law 370 = .ok (.iload_n 3, 1) := by decide +kernel
theorem dL_law_371 : decode cL_law 371 = .ok (.iconst 1, 1) := by decide +kernel
theorem dL_law_372 : decode cL_law 372 = .ok (.iadd, 1) := by decide +kernel
theorem dL_law_373 : decode cL_law 373 = .ok (.iaload, 1) := by decide +kernel
theorem dL_law_374 : decode cL_law 374 = .ok (.invokevirtual 38, 3) := by decide +kernel
theorem dL_law_377 : decode cL_law 377 = .ok (.if_icmp .eq 850, 3) := by decide +kernel
theorem dL_law_380 : decode cL_law 380 = .ok (.iconst 0, 1) := by decide +kernel
theorem dL_law_381 : decode cL_law 381 = .ok (.ireturn, 1) := by decide +kernel
theorem dL_law_382 : decode cL_law 382 = .ok (.aload_n 1, 1) := by decide +kernel
theorem dL_law_383 : decode cL_law 383 = .ok (.aload_n 0, 1) := by decide +kernel
theorem dL_law_384 : decode cL_law 384 = .ok (.iload_n 3, 1) := by decide +kernel
theorem dL_law_385 : decode cL_law 385 = .ok (.iconst 1, 1) := by decide +kernel
theorem dL_law_386 : decode cL_law 386 = .ok (.iadd, 1) := by decide +kernel
theorem dL_law_387 : decode cL_law 387 = .ok (.iaload, 1) := by decide +kernel
theorem dL_law_388 : decode cL_law 388 = .ok (.ifCond .eq 7, 3) := by decide +kernel
theorem dL_law_391 : decode cL_law 391 = .ok (.iconst 1, 1) := by decide +kernel
theorem dL_law_392 : decode cL_law 392 = .ok (.goto 4, 3) := by decide +kernel
theorem dL_law_395 : decode cL_law 395 = .ok (.iconst 0, 1) := by decide +kernel
theorem dL_law_396 : decode cL_law 396 = .ok (.invokevirtual 39, 3) := by decide +kernel
theorem dL_law_399 : decode cL_law 399 = .ok (.aload_n 2, 1) := by decide +kernel
theorem dL_law_400 : decode cL_law 400 = .ok (.aload_n 0, 1) := by decide +kernel
theorem dL_law_401 : decode cL_law 401 = .ok (.iload_n 3, 1) := by decide +kernel
theorem dL_law_402 : decode cL_law 402 = .ok (.iconst 1, 1) := by decide +kernel
theorem dL_law_403 : decode cL_law 403 = .ok (.iadd, 1) := by decide +kernel
theorem dL_law_404 : decode cL_law 404 = .ok (.iaload, 1) := by decide +kernel
theorem dL_law_405 : decode cL_law 405 = .ok (.ifCond .eq 7, 3) := by decide +kernel
theorem dL_law_408 : decode cL_law 408 = .ok (.iconst 1, 1) := by decide +kernel
theorem dL_law_409 : decode cL_law 409 = .ok (.goto 4, 3) := by decide +kernel
theorem dL_law_412 : decode cL_law 412 = .ok (.iconst 0, 1) := by decide +kernel
theorem dL_law_413 : decode cL_law 413 = .ok (.invokevirtual 43, 3) := by decide +kernel
theorem dL_law_416 : decode cL_law 416 = .ok (.if_icmp .eq 811, 3) := by decide +kernel
theorem dL_law_419 : decode cL_law 419 = .ok (.iconst 0, 1) := by decide +kernel
theorem dL_law_420 : decode cL_law 420 = .ok (.ireturn, 1) := by decide +kernel
theorem dL_law_421 : decode cL_law 421 = .ok (.aload_n 1, 1) := by decide +kernel
theorem dL_law_422 : decode cL_law 422 = .ok (.aload_n 0, 1) := by decide +kernel
theorem dL_law_423 : decode cL_law 423 = .ok (.iload_n 3, 1) := by decide +kernel
theorem dL_law_424 : decode cL_law 424 = .ok (.iconst 1, 1) := by decide +kernel
theorem dL_law_425 : decode cL_law 425 = .ok (.iadd, 1) := by decide +kernel
theorem dL_law_426 : decode cL_law 426 = .ok (.iaload, 1) := by decide +kernel
theorem dL_law_427 : decode cL_law 427 = .ok (.invokevirtual 44, 3) := by decide +kernel
theorem dL_law_430 : decode cL_law 430 = .ok (.aload_n 2, 1) := by decide +kernel
theorem dL_law_431 : decode cL_law 431 = .ok (.aload_n 0, 1) := by decide +kernel
theorem dL_law_432 : decode cL_law 432 = .ok (.iload_n 3, 1) := by decide +kernel
theorem dL_law_433 : decode cL_law 433 = .ok (.iconst 1, 1) := by decide +kernel
theorem dL_law_434 : decode cL_law 434 = .ok (.iadd, 1) := by decide +kernel
theorem dL_law_435 : decode cL_law 435 = .ok (.iaload, 1) := by decide +kernel
theorem dL_law_436 : decode cL_law 436 = .ok (.invokevirtual 47, 3) := by decide +kernel
theorem dL_law_439 : decode cL_law 439 = .ok (.if_icmp .eq 788, 3) := by decide +kernel
theorem dL_law_442 : decode cL_law 442 = .ok (.iconst 0, 1) := by decide +kernel
theorem dL_law_443 : decode cL_law 443 = .ok (.ireturn, 1) := by decide +kernel
theorem dL_law_444 : decode cL_law 444 = .ok (.aload_n 1, 1) := by decide +kernel
theorem dL_law_445 : decode cL_law 445 = .ok (.aload_n 0, 1) := by decide +kernel
theorem dL_law_446 : decode cL_law 446 = .ok (.iload_n 3, 1) := by decide +kernel
theorem dL_law_447 : decode cL_law 447 = .ok (.iconst 1, 1) := by decide +kernel
theorem dL_law_448 : decode cL_law 448 = .ok (.iadd, 1) := by decide +kernel
theorem dL_law_449 : decode cL_law 449 = .ok (.iaload, 1) := by decide +kernel
theorem dL_law_450 : decode cL_law 450 = .ok (.ifCond .eq 7, 3) := by decide +kernel
theorem dL_law_453 : decode cL_law 453 = .ok (.iconst 1, 1) := by decide +kernel
theorem dL_law_454 : decode cL_law 454 = .ok (.goto 4, 3) := by decide +kernel
theorem dL_law_457 : decode cL_law 457 = .ok (.iconst 0, 1) := by decide +kernel
theorem dL_law_458 : decode cL_law 458 = .ok (.aload_n 0, 1) := by decide +kernel
theorem dL_law_459 : decode cL_law 459 = .ok (.iload_n 3, 1) := by decide +kernel
theorem dL_law_460 : decode cL_law 460 = .ok (.iconst 2, 1) := by decide +kernel
theorem dL_law_461 : decode cL_law 461 = .ok (.iadd, 1) := by decide +kernel
theorem dL_law_462 : decode cL_law 462 = .ok (.iaload, 1) := by decide +kernel
theorem dL_law_463 : decode cL_law 463 = .ok (.aload_n 0, 1) := by decide +kernel
theorem dL_law_464 : decode cL_law 464 = .ok (.iload_n 3, 1) := by decide +kernel
theorem dL_law_465 : decode cL_law 465 = .ok (.iconst 3, 1) := by decide +kernel
theorem dL_law_466 : decode cL_law 466 = .ok (.iadd, 1) := by decide +kernel
theorem dL_law_467 : decode cL_law 467 = .ok (.iaload, 1) := by decide +kernel
theorem dL_law_468 : decode cL_law 468 = .ok (.invokevirtual 48, 3) := by decide +kernel
theorem dL_law_471 : decode cL_law 471 = .ok (.aload_n 2, 1) := by decide +kernel
theorem dL_law_472 : decode cL_law 472 = .ok (.aload_n 0, 1) := by decide +kernel
theorem dL_law_473 : decode cL_law 473 = .ok (.iload_n 3, 1) := by decide +kernel
theorem dL_law_474 : decode cL_law 474 = .ok (.iconst 1, 1) := by decide +kernel
theorem dL_law_475 : decode cL_law 475 = .ok (.iadd, 1) := by decide +kernel
theorem dL_law_476 : decode cL_law 476 = .ok (.iaload, 1) := by decide +kernel
theorem dL_law_477 : decode cL_law 477 = .ok (.ifCond .eq 7, 3) := by decide +kernel
theorem dL_law_480 : decode cL_law 480 = .ok (.iconst 1, 1) := by decide +kernel
theorem dL_law_481 : decode cL_law 481 = .ok (.goto 4, 3) := by decide +kernel
theorem dL_law_484 : decode cL_law 484 = .ok (.iconst 0, 1) := by decide +kernel
theorem dL_law_485 : decode cL_law 485 = .ok (.aload_n 0, 1) := by decide +kernel
theorem dL_law_486 : decode cL_law 486 = .ok (.iload_n 3, 1) := by decide +kernel
theorem dL_law_487 : decode cL_law 487 = .ok (.iconst 2, 1) := by decide +kernel
theorem dL_law_488 : decode cL_law 488 = .ok (.iadd, 1) := by decide +kernel
theorem dL_law_489 : decode cL_law 489 = .ok (.iaload, 1) := by decide +kernel
theorem dL_law_490 : decode cL_law 490 = .ok (.aload_n 0, 1) := by decide +kernel
theorem dL_law_491 : decode cL_law 491 = .ok (.iload_n 3, 1) := by decide +kernel
theorem dL_law_492 : decode cL_law 492 = .ok (.iconst 3, 1) := by decide +kernel
theorem dL_law_493 : decode cL_law 493 = .ok (.iadd, 1) := by decide +kernel
theorem dL_law_494 : decode cL_law 494 = .ok (.iaload, 1) := by decide +kernel
theorem dL_law_495 : decode cL_law 495 = .ok (.invokevirtual 52, 3) := by decide +kernel
theorem dL_law_498 : decode cL_law 498 = .ok (.if_icmp .eq 729, 3) := by decide +kernel
theorem dL_law_501 : decode cL_law 501 = .ok (.iconst 0, 1) := by decide +kernel
theorem dL_law_502 : decode cL_law 502 = .ok (.ireturn, 1) := by decide +kernel
theorem dL_law_503 : decode cL_law 503 = .ok (.aload_n 1, 1) := by decide +kernel
theorem dL_law_504 : decode cL_law 504 = .ok (.aload_n 0, 1) := by decide +kernel
theorem dL_law_505 : decode cL_law 505 = .ok (.iload_n 3, 1) := by decide +kernel
theorem dL_law_506 : decode cL_law 506 = .ok (.iconst 1, 1) := by decide +kernel
theorem dL_law_507 : decode cL_law 507 = .ok (.iadd, 1) := by decide +kernel
theorem dL_law_508 : decode cL_law 508 = .ok (.iaload, 1) := by decide +kernel
theorem dL_law_509 : decode cL_law 509 = .ok (.invokevirtual 53, 3) := by decide +kernel
theorem dL_law_512 : decode cL_law 512 = .ok (.aload_n 2, 1) := by decide +kernel
theorem dL_law_513 : decode cL_law 513 = .ok (.aload_n 0, 1) := by decide +kernel
theorem dL_law_514 : decode cL_law 514 = .ok (.iload_n 3, 1) := by decide +kernel
theorem dL_law_515 : decode cL_law 515 = .ok (.iconst 1, 1) := by decide +kernel
theorem dL_law_516 : decode cL_law 516 = .ok (.iadd, 1) := by decide +kernel
theorem dL_law_517 : decode cL_law 517 = .ok (.iaload, 1) := by decide +kernel
theorem dL_law_518 : decode cL_law 518 = .ok (.invokevirtual 56, 3) := by decide +kernel
theorem dL_law_521 : decode cL_law 521 = .ok (.if_icmp .eq 706, 3) := by decide +kernel
theorem dL_law_524 : decode cL_law 524 = .ok (.iconst 0, 1) := by decide +kernel
theorem dL_law_525 : decode cL_law 525 = .ok (.ireturn, 1) := by decide +kernel
theorem dL_law_526 : decode cL_law 526 = .ok (.aload_n 1, 1) := by decide +kernel
theorem dL_law_527 : decode cL_law 527 = .ok (.invokevirtual 57, 3) := by decide +kernel
theorem dL_law_530 : decode cL_law 530 = .ok (.aload_n 2, 1) := by decide +kernel
theorem dL_law_531 : decode cL_law 531 = .ok (.invokevirtual 61, 3) := by decide +kernel
theorem dL_law_534 : decode cL_law 534 = .ok (.if_icmp .eq 693, 3) := by decide +kernel
theorem dL_law_537 : decode cL_law 537 = .ok (.iconst 0, 1) := by decide +kernel
theorem dL_law_538 : decode cL_law 538 = .ok (.ireturn, 1) := by decide +kernel
theorem dL_law_539 : decode cL_law 539 = .ok (.aload_n 1, 1) := by decide +kernel
theorem dL_law_540 : decode cL_law 540 = .ok (.invokevirtual 62, 3) := by decide +kernel
theorem dL_law_543 : decode cL_law 543 = .ok (.aload_n 2, 1) := by decide +kernel
theorem dL_law_544 : decode cL_law 544 = .ok (.invokevirtual 65, 3) := by decide +kernel
theorem dL_law_547 : decode cL_law 547 = .ok (.if_icmp .eq 680, 3) := by decide +kernel
theorem dL_law_550 : decode cL_law 550 = .ok (.iconst 0, 1) := by decide +kernel
theorem dL_law_551 : decode cL_law 551 = .ok (.ireturn, 1) := by decide +kernel
theorem dL_law_552 : decode cL_law 552 = .ok (.aload_n 1, 1) := by decide +kernel
theorem dL_law_553 : decode cL_law 553 = .ok (.aload_n 0, 1) := by decide +kernel
theorem dL_law_554 : decode cL_law 554 = .ok (.iload_n 3, 1) := by decide +kernel
theorem dL_law_555 : decode cL_law 555 = .ok (.iconst 1, 1) := by decide +kernel
theorem dL_law_556 : decode cL_law 556 = .ok (.iadd, 1) := by decide +kernel
theorem dL_law_557 : decode cL_law 557 = .ok (.iaload, 1) := by decide +kernel
theorem dL_law_558 : decode cL_law 558 = .ok (.invokevirtual 66, 3) := by decide +kernel
theorem dL_law_561 : decode cL_law 561 = .ok (.aload_n 2, 1) := by decide +kernel
theorem dL_law_562 : decode cL_law 562 = .ok (.aload_n 0, 1) := by decide +kernel
theorem dL_law_563 : decode cL_law 563 = .ok (.iload_n 3, 1) := by decide +kernel
theorem dL_law_564 : decode cL_law 564 = .ok (.iconst 1, 1) := by decide +kernel
theorem dL_law_565 : decode cL_law 565 = .ok (.iadd, 1) := by decide +kernel
theorem dL_law_566 : decode cL_law 566 = .ok (.iaload, 1) := by decide +kernel
theorem dL_law_567 : decode cL_law 567 = .ok (.invokevirtual 69, 3) := by decide +kernel
theorem dL_law_570 : decode cL_law 570 = .ok (.if_icmp .eq 657, 3) := by decide +kernel
theorem dL_law_573 : decode cL_law 573 = .ok (.iconst 0, 1) := by decide +kernel
theorem dL_law_574 : decode cL_law 574 = .ok (.ireturn, 1) := by decide +kernel
theorem dL_law_575 : decode cL_law 575 = .ok (.aload_n 1, 1) := by decide +kernel
theorem dL_law_576 : decode cL_law 576 = .ok (.invokevirtual 70, 3) := by decide +kernel
theorem dL_law_579 : decode cL_law 579 = .ok (.aload_n 2, 1) := by decide +kernel
theorem dL_law_580 : decode cL_law 580 = .ok (.invokevirtual 73, 3) := by decide +kernel
theorem dL_law_583 : decode cL_law 583 = .ok (.if_icmp .eq 644, 3) := by decide +kernel
theorem dL_law_586 : decode cL_law 586 = .ok (.iconst 0, 1) := by decide +kernel
theorem dL_law_587 : decode cL_law 587 = .ok (.ireturn, 1) := by decide +kernel
theorem dL_law_588 : decode cL_law 588 = .ok (.aload_n 1, 1) := by decide +kernel
theorem dL_law_589 : decode cL_law 589 = .ok (.invokevirtual 74, 3) := by decide +kernel
theorem dL_law_592 : decode cL_law 592 = .ok (.aload_n 2, 1) := by decide +kernel
theorem dL_law_593 : decode cL_law 593 = .ok (.invokevirtual 77, 3) := by decide +kernel
theorem dL_law_596 : decode cL_law 596 = .ok (.if_icmp .eq 631, 3) := by decide +kernel
theorem dL_law_599 : decode cL_law 599 = .ok (.iconst 0, 1) := by decide +kernel
theorem dL_law_600 : decode cL_law 600 = .ok (.ireturn, 1) := by decide +kernel
theorem dL_law_601 : decode cL_law 601 = .ok (.aload_n 1, 1) := by decide +kernel
theorem dL_law_602 : decode cL_law 602 = .ok (.invokevirtual 78, 3) := by decide +kernel
theorem dL_law_605 : decode cL_law 605 = .ok (.aload_n 2, 1) := by decide +kernel
theorem dL_law_606 : decode cL_law 606 = .ok (.invokevirtual 81, 3) := by decide +kernel
theorem dL_law_609 : decode cL_law 609 = .ok (.if_icmp .eq 618, 3) := by decide +kernel
theorem dL_law_612 : decode cL_law 612 = .ok (.iconst 0, 1) := by decide +kernel
theorem dL_law_613 : decode cL_law 613 = .ok (.ireturn, 1) := by decide +kernel
theorem dL_law_614 : decode cL_law 614 = .ok (.aload_n 1, 1) := by decide +kernel
theorem dL_law_615 : decode cL_law 615 = .ok (.aload_n 0, 1) := by decide +kernel
theorem dL_law_616 : decode cL_law 616 = .ok (.iload_n 3, 1) := by decide +kernel
theorem dL_law_617 : decode cL_law 617 = .ok (.iconst 1, 1) := by decide +kernel
theorem dL_law_618 : decode cL_law 618 = .ok (.iadd, 1) := by decide +kernel
theorem dL_law_619 : decode cL_law 619 = .ok (.iaload, 1) := by decide +kernel
theorem dL_law_620 : decode cL_law 620 = .ok (.invokevirtual 82, 3) := by decide +kernel
theorem dL_law_623 : decode cL_law 623 = .ok (.aload_n 2, 1) := by decide +kernel
theorem dL_law_624 : decode cL_law 624 = .ok (.aload_n 0, 1) := by decide +kernel
theorem dL_law_625 : decode cL_law 625 = .ok (.iload_n 3, 1) := by decide +kernel
theorem dL_law_626 : decode cL_law 626 = .ok (.iconst 1, 1) := by decide +kernel
theorem dL_law_627 : decode cL_law 627 = .ok (.iadd, 1) := by decide +kernel
theorem dL_law_628 : decode cL_law 628 = .ok (.iaload, 1) := by decide +kernel
theorem dL_law_629 : decode cL_law 629 = .ok (.invokevirtual 85, 3) := by decide +kernel
theorem dL_law_632 : decode cL_law 632 = .ok (.if_icmp .eq 595, 3) := by decide +kernel
theorem dL_law_635 : decode cL_law 635 = .ok (.iconst 0, 1) := by decide +kernel
theorem dL_law_636 : decode cL_law 636 = .ok (.ireturn, 1) := by decide +kernel
theorem dL_law_637 : decode cL_law 637 = .ok (.aload_n 1, 1) := by decide +kernel
theorem dL_law_638 : decode cL_law 638 = .ok (.aload_n 0, 1) := by decide +kernel
theorem dL_law_639 : decode cL_law 639 = .ok (.iload_n 3, 1) := by decide +kernel
theorem dL_law_640 : decode cL_law 640 = .ok (.iconst 1, 1) := by decide +kernel
theorem dL_law_641 : decode cL_law 641 = .ok (.iadd, 1) := by decide +kernel
theorem dL_law_642 : decode cL_law 642 = .ok (.iaload, 1) := by decide +kernel
theorem dL_law_643 : decode cL_law 643 = .ok (.invokevirtual 86, 3) := by decide +kernel
theorem dL_law_646 : decode cL_law 646 = .ok (.aload_n 2, 1) := by decide +kernel
theorem dL_law_647 : decode cL_law 647 = .ok (.aload_n 0, 1) := by decide +kernel
theorem dL_law_648 : decode cL_law 648 = .ok (.iload_n 3, 1) := by decide +kernel
theorem dL_law_649 : decode cL_law 649 = .ok (.iconst 1, 1) := by decide +kernel
theorem dL_law_650 : decode cL_law 650 = .ok (.iadd, 1) := by decide +kernel
theorem dL_law_651 : decode cL_law 651 = .ok (.iaload, 1) := by decide +kernel
theorem dL_law_652 : decode cL_law 652 = .ok (.invokevirtual 89, 3) := by decide +kernel
theorem dL_law_655 : decode cL_law 655 = .ok (.if_icmp .eq 572, 3) := by decide +kernel
theorem dL_law_658 : decode cL_law 658 = .ok (.iconst 0, 1) := by decide +kernel
theorem dL_law_659 : decode cL_law 659 = .ok (.ireturn, 1) := by decide +kernel
theorem dL_law_660 : decode cL_law 660 = .ok (.aload_n 1, 1) := by decide +kernel
theorem dL_law_661 : decode cL_law 661 = .ok (.aload_n 0, 1) := by decide +kernel
theorem dL_law_662 : decode cL_law 662 = .ok (.iload_n 3, 1) := by decide +kernel
theorem dL_law_663 : decode cL_law 663 = .ok (.iconst 1, 1) := by decide +kernel
theorem dL_law_664 : decode cL_law 664 = .ok (.iadd, 1) := by decide +kernel
theorem dL_law_665 : decode cL_law 665 = .ok (.iaload, 1) := by decide +kernel
theorem dL_law_666 : decode cL_law 666 = .ok (.aload_n 0, 1) := by decide +kernel
theorem dL_law_667 : decode cL_law 667 = .ok (.iload_n 3, 1) := by decide +kernel
theorem dL_law_668 : decode cL_law 668 = .ok (.iconst 2, 1) := by decide +kernel
theorem dL_law_669 : decode cL_law 669 = .ok (.iadd, 1) := by decide +kernel
theorem dL_law_670 : decode cL_law 670 = .ok (.iaload, 1) := by decide +kernel
theorem dL_law_671 : decode cL_law 671 = .ok (.invokevirtual 90, 3) := by decide +kernel
theorem dL_law_674 : decode cL_law 674 = .ok (.aload_n 2, 1) := by decide +kernel
theorem dL_law_675 : decode cL_law 675 = .ok (.aload_n 0, 1) := by decide +kernel
theorem dL_law_676 : decode cL_law 676 = .ok (.iload_n 3, 1) := by decide +kernel
theorem dL_law_677 : decode cL_law 677 = .ok (.iconst 1, 1) := by decide +kernel
theorem dL_law_678 : decode cL_law 678 = .ok (.iadd, 1) := by decide +kernel
theorem dL_law_679 : decode cL_law 679 = .ok (.iaload, 1) := by decide +kernel
theorem dL_law_680 : decode cL_law 680 = .ok (.aload_n 0, 1) := by decide +kernel
theorem dL_law_681 : decode cL_law 681 = .ok (.iload_n 3, 1) := by decide +kernel
theorem dL_law_682 : decode cL_law 682 = .ok (.iconst 2, 1) := by decide +kernel
theorem dL_law_683 : decode cL_law 683 = .ok (.iadd, 1) := by decide +kernel
theorem dL_law_684 : decode cL_law 684 = .ok (.iaload, 1) := by decide +kernel
theorem dL_law_685 : decode cL_law 685 = .ok (.invokevirtual 93, 3) := by decide +kernel
theorem dL_law_688 : decode cL_law 688 = .ok (.if_icmp .eq 539, 3) := by decide +kernel
theorem dL_law_691 : decode cL_law 691 = .ok (.iconst 0, 1) := by decide +kernel
theorem dL_law_692 : decode cL_law 692 = .ok (.ireturn, 1) := by decide +kernel
theorem dL_law_693 : decode cL_law 693 = .ok (.aload_n 1, 1) := by decide +kernel
theorem dL_law_694 : decode cL_law 694 = .ok (.aload_n 0, 1) := by decide +kernel
theorem dL_law_695 : decode cL_law 695 = .ok (.iload_n 3, 1) := by decide +kernel
theorem dL_law_696 : decode cL_law 696 = .ok (.iconst 1, 1) := by decide +kernel
theorem dL_law_697 : decode cL_law 697 = .ok (.iadd, 1) := by decide +kernel
theorem dL_law_698 : decode cL_law 698 = .ok (.iaload, 1) := by decide +kernel
theorem dL_law_699 : decode cL_law 699 = .ok (.ifCond .eq 7, 3) := by decide +kernel
theorem dL_law_702 : decode cL_law 702 = .ok (.iconst 1, 1) := by decide +kernel
theorem dL_law_703 : decode cL_law 703 = .ok (.goto 4, 3) := by decide +kernel
theorem dL_law_706 : decode cL_law 706 = .ok (.iconst 0, 1) := by decide +kernel
theorem dL_law_707 : decode cL_law 707 = .ok (.aload_n 0, 1) := by decide +kernel
theorem dL_law_708 : decode cL_law 708 = .ok (.iload_n 3, 1) := by decide +kernel
theorem dL_law_709 : decode cL_law 709 = .ok (.iconst 2, 1) := by decide +kernel
theorem dL_law_710 : decode cL_law 710 = .ok (.iadd, 1) := by decide +kernel
theorem dL_law_711 : decode cL_law 711 = .ok (.iaload, 1) := by decide +kernel
theorem dL_law_712 : decode cL_law 712 = .ok (.aload_n 0, 1) := by decide +kernel
theorem dL_law_713 : decode cL_law 713 = .ok (.iload_n 3, 1) := by decide +kernel
theorem dL_law_714 : decode cL_law 714 = .ok (.iconst 3, 1) := by decide +kernel
theorem dL_law_715 : decode cL_law 715 = .ok (.iadd, 1) := by decide +kernel
theorem dL_law_716 : decode cL_law 716 = .ok (.iaload, 1) := by decide +kernel
theorem dL_law_717 : decode cL_law 717 = .ok (.invokevirtual 94, 3) := by decide +kernel
theorem dL_law_720 : decode cL_law 720 = .ok (.aload_n 2, 1) := by decide +kernel
theorem dL_law_721 : decode cL_law 721 = .ok (.aload_n 0, 1) := by decide +kernel
theorem dL_law_722 : decode cL_law 722 = .ok (.iload_n 3, 1) := by decide +kernel
theorem dL_law_723 : decode cL_law 723 = .ok (.iconst 1, 1) := by decide +kernel
theorem dL_law_724 : decode cL_law 724 = .ok (.iadd, 1) := by decide +kernel
theorem dL_law_725 : decode cL_law 725 = .ok (.iaload, 1) := by decide +kernel
theorem dL_law_726 : decode cL_law 726 = .ok (.ifCond .eq 7, 3) := by decide +kernel
theorem dL_law_729 : decode cL_law 729 = .ok (.iconst 1, 1) := by decide +kernel
theorem dL_law_730 : decode cL_law 730 = .ok (.goto 4, 3) := by decide +kernel
theorem dL_law_733 : decode cL_law 733 = .ok (.iconst 0, 1) := by decide +kernel
theorem dL_law_734 : decode cL_law 734 = .ok (.aload_n 0, 1) := by decide +kernel
theorem dL_law_735 : decode cL_law 735 = .ok (.iload_n 3, 1) := by decide +kernel
theorem dL_law_736 : decode cL_law 736 = .ok (.iconst 2, 1) := by decide +kernel
theorem dL_law_737 : decode cL_law 737 = .ok (.iadd, 1) := by decide +kernel
theorem dL_law_738 : decode cL_law 738 = .ok (.iaload, 1) := by decide +kernel
theorem dL_law_739 : decode cL_law 739 = .ok (.aload_n 0, 1) := by decide +kernel
theorem dL_law_740 : decode cL_law 740 = .ok (.iload_n 3, 1) := by decide +kernel
theorem dL_law_741 : decode cL_law 741 = .ok (.iconst 3, 1) := by decide +kernel
theorem dL_law_742 : decode cL_law 742 = .ok (.iadd, 1) := by decide +kernel
theorem dL_law_743 : decode cL_law 743 = .ok (.iaload, 1) := by decide +kernel
theorem dL_law_744 : decode cL_law 744 = .ok (.invokevirtual 97, 3) := by decide +kernel
theorem dL_law_747 : decode cL_law 747 = .ok (.if_icmp .eq 480, 3) := by decide +kernel
theorem dL_law_750 : decode cL_law 750 = .ok (.iconst 0, 1) := by decide +kernel
theorem dL_law_751 : decode cL_law 751 = .ok (.ireturn, 1) := by decide +kernel
theorem dL_law_752 : decode cL_law 752 = .ok (.aload_n 1, 1) := by decide +kernel
theorem dL_law_753 : decode cL_law 753 = .ok (.aload_n 0, 1) := by decide +kernel
theorem dL_law_754 : decode cL_law 754 = .ok (.iload_n 3, 1) := by decide +kernel
theorem dL_law_755 : decode cL_law 755 = .ok (.iconst 1, 1) := by decide +kernel
theorem dL_law_756 : decode cL_law 756 = .ok (.iadd, 1) := by decide +kernel
theorem dL_law_757 : decode cL_law 757 = .ok (.iaload, 1) := by decide +kernel
theorem dL_law_758 : decode cL_law 758 = .ok (.invokevirtual 98, 3) := by decide +kernel
theorem dL_law_761 : decode cL_law 761 = .ok (.aload_n 2, 1) := by decide +kernel
theorem dL_law_762 : decode cL_law 762 = .ok (.aload_n 0, 1) := by decide +kernel
theorem dL_law_763 : decode cL_law 763 = .ok (.iload_n 3, 1) := by decide +kernel
theorem dL_law_764 : decode cL_law 764 = .ok (.iconst 1, 1) := by decide +kernel
theorem dL_law_765 : decode cL_law 765 = .ok (.iadd, 1) := by decide +kernel
theorem dL_law_766 : decode cL_law 766 = .ok (.iaload, 1) := by decide +kernel
theorem dL_law_767 : decode cL_law 767 = .ok (.invokevirtual 101, 3) := by decide +kernel
theorem dL_law_770 : decode cL_law 770 = .ok (.if_icmp .eq 457, 3) := by decide +kernel
theorem dL_law_773 : decode cL_law 773 = .ok (.iconst 0, 1) := by decide +kernel
theorem dL_law_774 : decode cL_law 774 = .ok (.ireturn, 1) := by decide +kernel
theorem dL_law_775 : decode cL_law 775 = .ok (.aload_n 1, 1) := by decide +kernel
theorem dL_law_776 : decode cL_law 776 = .ok (.aload_n 0, 1) := by decide +kernel
theorem dL_law_777 : decode cL_law 777 = .ok (.iload_n 3, 1) := by decide +kernel
theorem dL_law_778 : decode cL_law 778 = .ok (.iconst 1, 1) := by decide +kernel
theorem dL_law_779 : decode cL_law 779 = .ok (.iadd, 1) := by decide +kernel
theorem dL_law_780 : decode cL_law 780 = .ok (.iaload, 1) := by decide +kernel
theorem dL_law_781 : decode cL_law 781 = .ok (.ifCond .eq 7, 3) := by decide +kernel
theorem dL_law_784 : decode cL_law 784 = .ok (.iconst 1, 1) := by decide +kernel
theorem dL_law_785 : decode cL_law 785 = .ok (.goto 4, 3) := by decide +kernel
theorem dL_law_788 : decode cL_law 788 = .ok (.iconst 0, 1) := by decide +kernel
theorem dL_law_789 : decode cL_law 789 = .ok (.aload_n 0, 1) := by decide +kernel
theorem dL_law_790 : decode cL_law 790 = .ok (.iload_n 3, 1) := by decide +kernel
theorem dL_law_791 : decode cL_law 791 = .ok (.iconst 2, 1) := by decide +kernel
theorem dL_law_792 : decode cL_law 792 = .ok (.iadd, 1) := by decide +kernel
theorem dL_law_793 : decode cL_law 793 = .ok (.iaload, 1) := by decide +kernel
theorem dL_law_794 : decode cL_law 794 = .ok (.aload_n 0, 1) := by decide +kernel
theorem dL_law_795 : decode cL_law 795 = .ok (.iload_n 3, 1) := by decide +kernel
theorem dL_law_796 : decode cL_law 796 = .ok (.iconst 3, 1) := by decide +kernel
theorem dL_law_797 : decode cL_law 797 = .ok (.iadd, 1) := by decide +kernel
theorem dL_law_798 : decode cL_law 798 = .ok (.iaload, 1) := by decide +kernel
theorem dL_law_799 : decode cL_law 799 = .ok (.aload_n 0, 1) := by decide +kernel
theorem dL_law_800 : decode cL_law 800 = .ok (.iload_n 3, 1) := by decide +kernel
theorem dL_law_801 : decode cL_law 801 = .ok (.iconst 4, 1) := by decide +kernel
theorem dL_law_802 : decode cL_law 802 = .ok (.iadd, 1) := by decide +kernel
theorem dL_law_803 : decode cL_law 803 = .ok (.iaload, 1) := by decide +kernel
theorem dL_law_804 : decode cL_law 804 = .ok (.invokevirtual 102, 3) := by decide +kernel
theorem dL_law_807 : decode cL_law 807 = .ok (.aload_n 2, 1) := by decide +kernel
theorem dL_law_808 : decode cL_law 808 = .ok (.aload_n 0, 1) := by decide +kernel
theorem dL_law_809 : decode cL_law 809 = .ok (.iload_n 3, 1) := by decide +kernel
theorem dL_law_810 : decode cL_law 810 = .ok (.iconst 1, 1) := by decide +kernel
theorem dL_law_811 : decode cL_law 811 = .ok (.iadd, 1) := by decide +kernel
theorem dL_law_812 : decode cL_law 812 = .ok (.iaload, 1) := by decide +kernel
theorem dL_law_813 : decode cL_law 813 = .ok (.ifCond .eq 7, 3) := by decide +kernel
theorem dL_law_816 : decode cL_law 816 = .ok (.iconst 1, 1) := by decide +kernel
theorem dL_law_817 : decode cL_law 817 = .ok (.goto 4, 3) := by decide +kernel
theorem dL_law_820 : decode cL_law 820 = .ok (.iconst 0, 1) := by decide +kernel
theorem dL_law_821 : decode cL_law 821 = .ok (.aload_n 0, 1) := by decide +kernel
theorem dL_law_822 : decode cL_law 822 = .ok (.iload_n 3, 1) := by decide +kernel
theorem dL_law_823 : decode cL_law 823 = .ok (.iconst 2, 1) := by decide +kernel
theorem dL_law_824 : decode cL_law 824 = .ok (.iadd, 1) := by decide +kernel
theorem dL_law_825 : decode cL_law 825 = .ok (.iaload, 1) := by decide +kernel
theorem dL_law_826 : decode cL_law 826 = .ok (.aload_n 0, 1) := by decide +kernel
theorem dL_law_827 : decode cL_law 827 = .ok (.iload_n 3, 1) := by decide +kernel
theorem dL_law_828 : decode cL_law 828 = .ok (.iconst 3, 1) := by decide +kernel
theorem dL_law_829 : decode cL_law 829 = .ok (.iadd, 1) := by decide +kernel
theorem dL_law_830 : decode cL_law 830 = .ok (.iaload, 1) := by decide +kernel
theorem dL_law_831 : decode cL_law 831 = .ok (.aload_n 0, 1) := by decide +kernel
theorem dL_law_832 : decode cL_law 832 = .ok (.iload_n 3, 1) := by decide +kernel
theorem dL_law_833 : decode cL_law 833 = .ok (.iconst 4, 1) := by decide +kernel
theorem dL_law_834 : decode cL_law 834 = .ok (.iadd, 1) := by decide +kernel
theorem dL_law_835 : decode cL_law 835 = .ok (.iaload, 1) := by decide +kernel
theorem dL_law_836 : decode cL_law 836 = .ok (.invokevirtual 106, 3) := by decide +kernel
theorem dL_law_839 : decode cL_law 839 = .ok (.if_icmp .eq 388, 3) := by decide +kernel
theorem dL_law_842 : decode cL_law 842 = .ok (.iconst 0, 1) := by decide +kernel
theorem dL_law_843 : decode cL_law 843 = .ok (.ireturn, 1) := by decide +kernel
theorem dL_law_844 : decode cL_law 844 = .ok (.aload_n 1, 1) := by decide +kernel
theorem dL_law_845 : decode cL_law 845 = .ok (.invokevirtual 107, 3) := by decide +kernel
theorem dL_law_848 : decode cL_law 848 = .ok (.aload_n 2, 1) := by decide +kernel
theorem dL_law_849 : decode cL_law 849 = .ok (.invokevirtual 110, 3) := by decide +kernel
theorem dL_law_852 : decode cL_law 852 = .ok (.if_icmp .eq 375, 3) := by decide +kernel
theorem dL_law_855 : decode cL_law 855 = .ok (.iconst 0, 1) := by decide +kernel
theorem dL_law_856 : decode cL_law 856 = .ok (.ireturn, 1) := by decide +kernel
theorem dL_law_857 : decode cL_law 857 = .ok (.aload_n 1, 1) := by decide +kernel
theorem dL_law_858 : decode cL_law 858 = .ok (.aload_n 0, 1) := by decide +kernel
theorem dL_law_859 : decode cL_law 859 = .ok (.iload_n 3, 1) := by decide +kernel
theorem dL_law_860 : decode cL_law 860 = .ok (.iconst 1, 1) := by decide +kernel
theorem dL_law_861 : decode cL_law 861 = .ok (.iadd, 1) := by decide +kernel
theorem dL_law_862 : decode cL_law 862 = .ok (.iaload, 1) := by decide +kernel
theorem dL_law_863 : decode cL_law 863 = .ok (.invokevirtual 111, 3) := by decide +kernel
theorem dL_law_866 : decode cL_law 866 = .ok (.aload_n 2, 1) := by decide +kernel
theorem dL_law_867 : decode cL_law 867 = .ok (.aload_n 0, 1) := by decide +kernel
theorem dL_law_868 : decode cL_law 868 = .ok (.iload_n 3, 1) := by decide +kernel
theorem dL_law_869 : decode cL_law 869 = .ok (.iconst 1, 1) := by decide +kernel
theorem dL_law_870 : decode cL_law 870 = .ok (.iadd, 1) := by decide +kernel
theorem dL_law_871 : decode cL_law 871 = .ok (.iaload, 1) := by decide +kernel
theorem dL_law_872 : decode cL_law 872 = .ok (.invokevirtual 114, 3) := by decide +kernel
theorem dL_law_875 : decode cL_law 875 = .ok (.if_icmp .eq 352, 3) := by decide +kernel
theorem dL_law_878 : decode cL_law 878 = .ok (.iconst 0, 1) := by decide +kernel
theorem dL_law_879 : decode cL_law 879 = .ok (.ireturn, 1) := by decide +kernel
theorem dL_law_880 : decode cL_law 880 = .ok (.aload_n 1, 1) := by decide +kernel
theorem dL_law_881 : decode cL_law 881 = .ok (.invokevirtual 115, 3) := by decide +kernel
theorem dL_law_884 : decode cL_law 884 = .ok (.aload_n 2, 1) := by decide +kernel
theorem dL_law_885 : decode cL_law 885 = .ok (.invokevirtual 118, 3) := by decide +kernel
theorem dL_law_888 : decode cL_law 888 = .ok (.if_icmp .eq 339, 3) := by decide +kernel
theorem dL_law_891 : decode cL_law 891 = .ok (.iconst 0, 1) := by decide +kernel
theorem dL_law_892 : decode cL_law 892 = .ok (.ireturn, 1) := by decide +kernel
theorem dL_law_893 : decode cL_law 893 = .ok (.aload_n 1, 1) := by decide +kernel
theorem dL_law_894 : decode cL_law 894 = .ok (.invokevirtual 119, 3) := by decide +kernel
theorem dL_law_897 : decode cL_law 897 = .ok (.aload_n 2, 1) := by decide +kernel
theorem dL_law_898 : decode cL_law 898 = .ok (.invokevirtual 122, 3) := by decide +kernel
theorem dL_law_901 : decode cL_law 901 = .ok (.if_icmp .eq 326, 3) := by decide +kernel
theorem dL_law_904 : decode cL_law 904 = .ok (.iconst 0, 1) := by decide +kernel
theorem dL_law_905 : decode cL_law 905 = .ok (.ireturn, 1) := by decide +kernel
theorem dL_law_906 : decode cL_law 906 = .ok (.aload_n 1, 1) := by decide +kernel
theorem dL_law_907 : decode cL_law 907 = .ok (.aload_n 0, 1) := by decide +kernel
theorem dL_law_908 : decode cL_law 908 = .ok (.iload_n 3, 1) := by decide +kernel
theorem dL_law_909 : decode cL_law 909 = .ok (.iconst 1, 1) := by decide +kernel
theorem dL_law_910 : decode cL_law 910 = .ok (.iadd, 1) := by decide +kernel
theorem dL_law_911 : decode cL_law 911 = .ok (.iaload, 1) := by decide +kernel
theorem dL_law_912 : decode cL_law 912 = .ok (.invokevirtual 123, 3) := by decide +kernel
theorem dL_law_915 : decode cL_law 915 = .ok (.aload_n 2, 1) := by decide +kernel
theorem dL_law_916 : decode cL_law 916 = .ok (.aload_n 0, 1) := by decide +kernel
theorem dL_law_917 : decode cL_law 917 = .ok (.iload_n 3, 1) := by decide +kernel
theorem dL_law_918 : decode cL_law 918 = .ok (.iconst 1, 1) := by decide +kernel
theorem dL_law_919 : decode cL_law 919 = .ok (.iadd, 1) := by decide +kernel
theorem dL_law_920 : decode cL_law 920 = .ok (.iaload, 1) := by decide +kernel
theorem dL_law_921 : decode cL_law 921 = .ok (.invokevirtual 126, 3) := by decide +kernel
theorem dL_law_924 : decode cL_law 924 = .ok (.if_icmp .eq 303, 3) := by decide +kernel
theorem dL_law_927 : decode cL_law 927 = .ok (.iconst 0, 1) := by decide +kernel
theorem dL_law_928 : decode cL_law 928 = .ok (.ireturn, 1) := by decide +kernel
theorem dL_law_929 : decode cL_law 929 = .ok (.aload_n 1, 1) := by decide +kernel
theorem dL_law_930 : decode cL_law 930 = .ok (.invokevirtual 127, 3) := by decide +kernel
theorem dL_law_933 : decode cL_law 933 = .ok (.aload_n 2, 1) := by decide +kernel
theorem dL_law_934 : decode cL_law 934 = .ok (.invokevirtual 130, 3) := by decide +kernel
theorem dL_law_937 : decode cL_law 937 = .ok (.if_icmp .eq 290, 3) := by decide +kernel
theorem dL_law_940 : decode cL_law 940 = .ok (.iconst 0, 1) := by decide +kernel
theorem dL_law_941 : decode cL_law 941 = .ok (.ireturn, 1) := by decide +kernel
theorem dL_law_942 : decode cL_law 942 = .ok (.aload_n 1, 1) := by decide +kernel
theorem dL_law_943 : decode cL_law 943 = .ok (.invokevirtual 131, 3) := by decide +kernel
theorem dL_law_946 : decode cL_law 946 = .ok (.aload_n 2, 1) := by decide +kernel
theorem dL_law_947 : decode cL_law 947 = .ok (.invokevirtual 134, 3) := by decide +kernel
theorem dL_law_950 : decode cL_law 950 = .ok (.if_icmp .eq 277, 3) := by decide +kernel
theorem dL_law_953 : decode cL_law 953 = .ok (.iconst 0, 1) := by decide +kernel
theorem dL_law_954 : decode cL_law 954 = .ok (.ireturn, 1) := by decide +kernel
theorem dL_law_955 : decode cL_law 955 = .ok (.aload_n 1, 1) := by decide +kernel
theorem dL_law_956 : decode cL_law 956 = .ok (.invokevirtual 135, 3) := by decide +kernel
theorem dL_law_959 : decode cL_law 959 = .ok (.aload_n 2, 1) := by decide +kernel
theorem dL_law_960 : decode cL_law 960 = .ok (.invokevirtual 138, 3) := by decide +kernel
theorem dL_law_963 : decode cL_law 963 = .ok (.if_icmp .eq 264, 3) := by decide +kernel
theorem dL_law_966 : decode cL_law 966 = .ok (.iconst 0, 1) := by decide +kernel
theorem dL_law_967 : decode cL_law 967 = .ok (.ireturn, 1) := by decide +kernel
theorem dL_law_968 : decode cL_law 968 = .ok (.aload_n 1, 1) := by decide +kernel
theorem dL_law_969 : decode cL_law 969 = .ok (.invokevirtual 139, 3) := by decide +kernel
theorem dL_law_972 : decode cL_law 972 = .ok (.aload_n 2, 1) := by decide +kernel
theorem dL_law_973 : decode cL_law 973 = .ok (.invokevirtual 142, 3) := by decide +kernel
theorem dL_law_976 : decode cL_law 976 = .ok (.if_icmp .eq 251, 3) := by decide +kernel
theorem dL_law_979 : decode cL_law 979 = .ok (.iconst 0, 1) := by decide +kernel
theorem dL_law_980 : decode cL_law 980 = .ok (.ireturn, 1) := by decide +kernel
theorem dL_law_981 : decode cL_law 981 = .ok (.aload_n 1, 1) := by decide +kernel
theorem dL_law_982 : decode cL_law 982 = .ok (.aload_n 0, 1) := by decide +kernel
theorem dL_law_983 : decode cL_law 983 = .ok (.iload_n 3, 1) := by decide +kernel
theorem dL_law_984 : decode cL_law 984 = .ok (.iconst 1, 1) := by decide +kernel
theorem dL_law_985 : decode cL_law 985 = .ok (.iadd, 1) := by decide +kernel
theorem dL_law_986 : decode cL_law 986 = .ok (.iaload, 1) := by decide +kernel
theorem dL_law_987 : decode cL_law 987 = .ok (.ifCond .eq 7, 3) := by decide +kernel
theorem dL_law_990 : decode cL_law 990 = .ok (.iconst 1, 1) := by decide +kernel
theorem dL_law_991 : decode cL_law 991 = .ok (.goto 4, 3) := by decide +kernel
theorem dL_law_994 : decode cL_law 994 = .ok (.iconst 0, 1) := by decide +kernel
theorem dL_law_995 : decode cL_law 995 = .ok (.invokevirtual 143, 3) := by decide +kernel
theorem dL_law_998 : decode cL_law 998 = .ok (.aload_n 2, 1) := by decide +kernel
theorem dL_law_999 : decode cL_law 999 = .ok (.aload_n 0, 1) := by decide +kernel
theorem dL_law_1000 : decode cL_law 1000 = .ok (.iload_n 3, 1) := by decide +kernel
theorem dL_law_1001 : decode cL_law 1001 = .ok (.iconst 1, 1) := by decide +kernel
theorem dL_law_1002 : decode cL_law 1002 = .ok (.iadd, 1) := by decide +kernel
theorem dL_law_1003 : decode cL_law 1003 = .ok (.iaload, 1) := by decide +kernel
theorem dL_law_1004 : decode cL_law 1004 = .ok (.ifCond .eq 7, 3) := by decide +kernel
theorem dL_law_1007 : decode cL_law 1007 = .ok (.iconst 1, 1) := by decide +kernel
theorem dL_law_1008 : decode cL_law 1008 = .ok (.goto 4, 3) := by decide +kernel
theorem dL_law_1011 : decode cL_law 1011 = .ok (.iconst 0, 1) := by decide +kernel
theorem dL_law_1012 : decode cL_law 1012 = .ok (.invokevirtual 146, 3) := by decide +kernel
theorem dL_law_1015 : decode cL_law 1015 = .ok (.if_icmp .eq 212, 3) := by decide +kernel
theorem dL_law_1018 : decode cL_law 1018 = .ok (.iconst 0, 1) := by decide +kernel
theorem dL_law_1019 : decode cL_law 1019 = .ok (.ireturn, 1) := by decide +kernel
theorem dL_law_1020 : decode cL_law 1020 = .ok (.aload_n 1, 1) := by decide +kernel
theorem dL_law_1021 : decode cL_law 1021 = .ok (.invokevirtual 147, 3) := by decide +kernel
theorem dL_law_1024 : decode cL_law 1024 = .ok (.aload_n 2, 1) := by decide +kernel
theorem dL_law_1025 : decode cL_law 1025 = .ok (.invokevirtual 150, 3) := by decide +kernel
theorem dL_law_1028 : decode cL_law 1028 = .ok (.if_icmp .eq 199, 3) := by decide +kernel
theorem dL_law_1031 : decode cL_law 1031 = .ok (.iconst 0, 1) := by decide +kernel
theorem dL_law_1032 : decode cL_law 1032 = .ok (.ireturn, 1) := by decide +kernel
theorem dL_law_1033 : decode cL_law 1033 = .ok (.aload_n 1, 1) := by decide +kernel
theorem dL_law_1034 : decode cL_law 1034 = .ok (.invokevirtual 151, 3) := by decide +kernel
theorem dL_law_1037 : decode cL_law 1037 = .ok (.aload_n 2, 1) := by decide +kernel
theorem dL_law_1038 : decode cL_law 1038 = .ok (.invokevirtual 154, 3) := by decide +kernel
theorem dL_law_1041 : decode cL_law 1041 = .ok (.if_icmp .eq 186, 3) := by decide +kernel
theorem dL_law_1044 : decode cL_law 1044 = .ok (.iconst 0, 1) := by decide +kernel
theorem dL_law_1045 : decode cL_law 1045 = .ok (.ireturn, 1) := by decide +kernel
theorem dL_law_1046 : decode cL_law 1046 = .ok (.aload_n 1, 1) := by decide +kernel
theorem dL_law_1047 : decode cL_law 1047 = .ok (.aload_n 0, 1) := by decide +kernel
theorem dL_law_1048 : decode cL_law 1048 = .ok (.iload_n 3, 1) := by decide +kernel
theorem dL_law_1049 : decode cL_law 1049 = .ok (.iconst 1, 1) := by decide +kernel
theorem dL_law_1050 : decode cL_law 1050 = .ok (.iadd, 1) := by decide +kernel
theorem dL_law_1051 : decode cL_law 1051 = .ok (.iaload, 1) := by decide +kernel
theorem dL_law_1052 : decode cL_law 1052 = .ok (.invokevirtual 155, 3) := by decide +kernel
theorem dL_law_1055 : decode cL_law 1055 = .ok (.aload_n 2, 1) := by decide +kernel
theorem dL_law_1056 : decode cL_law 1056 = .ok (.aload_n 0, 1) := by decide +kernel
theorem dL_law_1057 : decode cL_law 1057 = .ok (.iload_n 3, 1) := by decide +kernel
theorem dL_law_1058 : decode cL_law 1058 = .ok (.iconst 1, 1) := by decide +kernel
theorem dL_law_1059 : decode cL_law 1059 = .ok (.iadd, 1) := by decide +kernel
theorem dL_law_1060 : decode cL_law 1060 = .ok (.iaload, 1) := by decide +kernel
theorem dL_law_1061 : decode cL_law 1061 = .ok (.invokevirtual 158, 3) := by decide +kernel
theorem dL_law_1064 : decode cL_law 1064 = .ok (.if_icmp .eq 163, 3) := by decide +kernel
theorem dL_law_1067 : decode cL_law 1067 = .ok (.iconst 0, 1) := by decide +kernel
theorem dL_law_1068 : decode cL_law 1068 = .ok (.ireturn, 1) := by decide +kernel
theorem dL_law_1069 : decode cL_law 1069 = .ok (.aload_n 1, 1) := by decide +kernel
theorem dL_law_1070 : decode cL_law 1070 = .ok (.aload_n 0, 1) := by decide +kernel
theorem dL_law_1071 : decode cL_law 1071 = .ok (.iload_n 3, 1) := by decide +kernel
theorem dL_law_1072 : decode cL_law 1072 = .ok (.iconst 1, 1) := by decide +kernel
theorem dL_law_1073 : decode cL_law 1073 = .ok (.iadd, 1) := by decide +kernel
theorem dL_law_1074 : decode cL_law 1074 = .ok (.iaload, 1) := by decide +kernel
theorem dL_law_1075 : decode cL_law 1075 = .ok (.invokevirtual 159, 3) := by decide +kernel
theorem dL_law_1078 : decode cL_law 1078 = .ok (.aload_n 2, 1) := by decide +kernel
theorem dL_law_1079 : decode cL_law 1079 = .ok (.aload_n 0, 1) := by decide +kernel
theorem dL_law_1080 : decode cL_law 1080 = .ok (.iload_n 3, 1) := by decide +kernel
theorem dL_law_1081 : decode cL_law 1081 = .ok (.iconst 1, 1) := by decide +kernel
theorem dL_law_1082 : decode cL_law 1082 = .ok (.iadd, 1) := by decide +kernel
theorem dL_law_1083 : decode cL_law 1083 = .ok (.iaload, 1) := by decide +kernel
theorem dL_law_1084 : decode cL_law 1084 = .ok (.invokevirtual 162, 3) := by decide +kernel
theorem dL_law_1087 : decode cL_law 1087 = .ok (.if_icmp .eq 140, 3) := by decide +kernel
theorem dL_law_1090 : decode cL_law 1090 = .ok (.iconst 0, 1) := by decide +kernel
theorem dL_law_1091 : decode cL_law 1091 = .ok (.ireturn, 1) := by decide +kernel
theorem dL_law_1092 : decode cL_law 1092 = .ok (.aload_n 1, 1) := by decide +kernel
theorem dL_law_1093 : decode cL_law 1093 = .ok (.aload_n 0, 1) := by decide +kernel
theorem dL_law_1094 : decode cL_law 1094 = .ok (.iload_n 3, 1) := by decide +kernel
theorem dL_law_1095 : decode cL_law 1095 = .ok (.iconst 1, 1) := by decide +kernel
theorem dL_law_1096 : decode cL_law 1096 = .ok (.iadd, 1) := by decide +kernel
theorem dL_law_1097 : decode cL_law 1097 = .ok (.iaload, 1) := by decide +kernel
theorem dL_law_1098 : decode cL_law 1098 = .ok (.invokevirtual 163, 3) := by decide +kernel
theorem dL_law_1101 : decode cL_law 1101 = .ok (.aload_n 2, 1) := by decide +kernel
theorem dL_law_1102 : decode cL_law 1102 = .ok (.aload_n 0, 1) := by decide +kernel
theorem dL_law_1103 : decode cL_law 1103 = .ok (.iload_n 3, 1) := by decide +kernel
theorem dL_law_1104 : decode cL_law 1104 = .ok (.iconst 1, 1) := by decide +kernel
theorem dL_law_1105 : decode cL_law 1105 = .ok (.iadd, 1) := by decide +kernel
theorem dL_law_1106 : decode cL_law 1106 = .ok (.iaload, 1) := by decide +kernel
theorem dL_law_1107 : decode cL_law 1107 = .ok (.invokevirtual 166, 3) := by decide +kernel
theorem dL_law_1110 : decode cL_law 1110 = .ok (.if_icmp .eq 117, 3) := by decide +kernel
theorem dL_law_1113 : decode cL_law 1113 = .ok (.iconst 0, 1) := by decide +kernel
theorem dL_law_1114 : decode cL_law 1114 = .ok (.ireturn, 1) := by decide +kernel
theorem dL_law_1115 : decode cL_law 1115 = .ok (.aload_n 1, 1) := by decide +kernel
theorem dL_law_1116 : decode cL_law 1116 = .ok (.invokevirtual 167, 3) := by decide +kernel
theorem dL_law_1119 : decode cL_law 1119 = .ok (.aload_n 2, 1) := by decide +kernel
theorem dL_law_1120 : decode cL_law 1120 = .ok (.invokevirtual 170, 3) := by decide +kernel
theorem dL_law_1123 : decode cL_law 1123 = .ok (.if_icmp .eq 104, 3) := by decide +kernel
theorem dL_law_1126 : decode cL_law 1126 = .ok (.iconst 0, 1) := by decide +kernel
theorem dL_law_1127 : decode cL_law 1127 = .ok (.ireturn, 1) := by decide +kernel
theorem dL_law_1128 : decode cL_law 1128 = .ok (.aload_n 1, 1) := by decide +kernel
theorem dL_law_1129 : decode cL_law 1129 = .ok (.invokevirtual 171, 3) := by decide +kernel
theorem dL_law_1132 : decode cL_law 1132 = .ok (.aload_n 2, 1) := by decide +kernel
theorem dL_law_1133 : decode cL_law 1133 = .ok (.invokevirtual 174, 3) := by decide +kernel
theorem dL_law_1136 : decode cL_law 1136 = .ok (.if_icmp .eq 91, 3) := by decide +kernel
theorem dL_law_1139 : decode cL_law 1139 = .ok (.iconst 0, 1) := by decide +kernel
theorem dL_law_1140 : decode cL_law 1140 = .ok (.ireturn, 1) := by decide +kernel
theorem dL_law_1141 : decode cL_law 1141 = .ok (.aload_n 1, 1) := by decide +kernel
theorem dL_law_1142 : decode cL_law 1142 = .ok (.invokevirtual 175, 3) := by decide +kernel
theorem dL_law_1145 : decode cL_law 1145 = .ok (.aload_n 2, 1) := by decide +kernel
theorem dL_law_1146 : decode cL_law 1146 = .ok (.invokevirtual 178, 3) := by decide +kernel
theorem dL_law_1149 : decode cL_law 1149 = .ok (.if_icmp .eq 78, 3) := by decide +kernel
theorem dL_law_1152 : decode cL_law 1152 = .ok (.iconst 0, 1) := by decide +kernel
theorem dL_law_1153 : decode cL_law 1153 = .ok (.ireturn, 1) := by decide +kernel
theorem dL_law_1154 : decode cL_law 1154 = .ok (.aload_n 1, 1) := by decide +kernel
theorem dL_law_1155 : decode cL_law 1155 = .ok (.invokevirtual 179, 3) := by decide +kernel
theorem dL_law_1158 : decode cL_law 1158 = .ok (.aload_n 2, 1) := by decide +kernel
theorem dL_law_1159 : decode cL_law 1159 = .ok (.invokevirtual 182, 3) := by decide +kernel
theorem dL_law_1162 : decode cL_law 1162 = .ok (.if_icmp .eq 65, 3) := by decide +kernel
theorem dL_law_1165 : decode cL_law 1165 = .ok (.iconst 0, 1) := by decide +kernel
theorem dL_law_1166 : decode cL_law 1166 = .ok (.ireturn, 1) := by decide +kernel
theorem dL_law_1167 : decode cL_law 1167 = .ok (.aload_n 1, 1) := by decide +kernel
theorem dL_law_1168 : decode cL_law 1168 = .ok (.aload_n 0, 1) := by decide +kernel
theorem dL_law_1169 : decode cL_law 1169 = .ok (.iload_n 3, 1) := by decide +kernel
theorem dL_law_1170 : decode cL_law 1170 = .ok (.iconst 1, 1) := by decide +kernel
theorem dL_law_1171 : decode cL_law 1171 = .ok (.iadd, 1) := by decide +kernel
theorem dL_law_1172 : decode cL_law 1172 = .ok (.iaload, 1) := by decide +kernel
theorem dL_law_1173 : decode cL_law 1173 = .ok (.invokevirtual 183, 3) := by decide +kernel
theorem dL_law_1176 : decode cL_law 1176 = .ok (.aload_n 2, 1) := by decide +kernel
theorem dL_law_1177 : decode cL_law 1177 = .ok (.aload_n 0, 1) := by decide +kernel
theorem dL_law_1178 : decode cL_law 1178 = .ok (.iload_n 3, 1) := by decide +kernel
theorem dL_law_1179 : decode cL_law 1179 = .ok (.iconst 1, 1) := by decide +kernel
theorem dL_law_1180 : decode cL_law 1180 = .ok (.iadd, 1) := by decide +kernel
theorem dL_law_1181 : decode cL_law 1181 = .ok (.iaload, 1) := by decide +kernel
theorem dL_law_1182 : decode cL_law 1182 = .ok (.invokevirtual 186, 3) := by decide +kernel
theorem dL_law_1185 : decode cL_law 1185 = .ok (.if_icmp .eq 42, 3) := by decide +kernel
theorem dL_law_1188 : decode cL_law 1188 = .ok (.iconst 0, 1) := by decide +kernel
theorem dL_law_1189 : decode cL_law 1189 = .ok (.ireturn, 1) := by decide +kernel
theorem dL_law_1190 : decode cL_law 1190 = .ok (.aload_n 1, 1) := by decide +kernel
theorem dL_law_1191 : decode cL_law 1191 = .ok (.aload_n 0, 1) := by decide +kernel
theorem dL_law_1192 : decode cL_law 1192 = .ok (.iload_n 3, 1) := by decide +kernel
theorem dL_law_1193 : decode cL_law 1193 = .ok (.iconst 1, 1) := by decide +kernel
theorem dL_law_1194 : decode cL_law 1194 = .ok (.iadd, 1) := by decide +kernel
theorem dL_law_1195 : decode cL_law 1195 = .ok (.iaload, 1) := by decide +kernel
theorem dL_law_1196 : decode cL_law 1196 = .ok (.invokevirtual 187, 3) := by decide +kernel
theorem dL_law_1199 : decode cL_law 1199 = .ok (.aload_n 2, 1) := by decide +kernel
theorem dL_law_1200 : decode cL_law 1200 = .ok (.aload_n 0, 1) := by decide +kernel
theorem dL_law_1201 : decode cL_law 1201 = .ok (.iload_n 3, 1) := by decide +kernel
theorem dL_law_1202 : decode cL_law 1202 = .ok (.iconst 1, 1) := by decide +kernel
theorem dL_law_1203 : decode cL_law 1203 = .ok (.iadd, 1) := by decide +kernel
theorem dL_law_1204 : decode cL_law 1204 = .ok (.iaload, 1) := by decide +kernel
theorem dL_law_1205 : decode cL_law 1205 = .ok (.invokevirtual 190, 3) := by decide +kernel
theorem dL_law_1208 : decode cL_law 1208 = .ok (.if_icmp .eq 19, 3) := by decide +kernel
theorem dL_law_1211 : decode cL_law 1211 = .ok (.iconst 0, 1) := by decide +kernel
theorem dL_law_1212 : decode cL_law 1212 = .ok (.ireturn, 1) := by decide +kernel
theorem dL_law_1213 : decode cL_law 1213 = .ok (.aload_n 1, 1) := by decide +kernel
theorem dL_law_1214 : decode cL_law 1214 = .ok (.invokevirtual 191, 3) := by decide +kernel
theorem dL_law_1217 : decode cL_law 1217 = .ok (.aload_n 2, 1) := by decide +kernel
theorem dL_law_1218 : decode cL_law 1218 = .ok (.invokevirtual 195, 3) := by decide +kernel
theorem dL_law_1221 : decode cL_law 1221 = .ok (.lcmp, 1) := by decide +kernel
theorem dL_law_1222 : decode cL_law 1222 = .ok (.ifCond .eq 5, 3) := by decide +kernel
theorem dL_law_1225 : decode cL_law 1225 = .ok (.iconst 0, 1) := by decide +kernel
theorem dL_law_1226 : decode cL_law 1226 = .ok (.ireturn, 1) := by decide +kernel
theorem dL_law_1227 : decode cL_law 1227 = .ok (.iinc 3 5, 3) := by decide +kernel
theorem dL_law_1230 : decode cL_law 1230 = .ok (.goto (-1212), 3) := by decide +kernel
theorem dL_law_1233 : decode cL_law 1233 = .ok (.iconst 1, 1) := by decide +kernel
theorem dL_law_1234 : decode cL_law 1234 = .ok (.ireturn, 1) := by decide +kernel
end
section
-- numbers: an int is held as ja_I of a whole number
def ja_I (z : Int) : Int32 := Int32.ofInt z
def ja_L (z : Int) : Int64 := Int64.ofInt z
def ja_in (z : Int) : Prop := -2147483648 ≤ z ∧ z < 2147483648
theorem ja_toInt {z : Int} (h : ja_in z) : (ja_I z).toInt = z := Int32.toInt_ofInt_of_le h.1 h.2
theorem ja_range (x : Int32) : ja_in x.toInt := ⟨by have := Int32.le_toInt x; omega, by have := Int32.toInt_lt x; omega⟩
theorem ja_of (x : Int32) : ja_I x.toInt = x := Int32.ofInt_toInt x
theorem ja_add (a b : Int) : ja_I a + ja_I b = ja_I (a + b) := by unfold ja_I; rw [Int32.ofInt_add]
theorem ja_sub (a b : Int) : ja_I a - ja_I b = ja_I (a - b) := by unfold ja_I; rw [Int32.ofInt_sub]
theorem ja_mul (a b : Int) : ja_I a * ja_I b = ja_I (a * b) := by unfold ja_I; rw [Int32.ofInt_mul]
theorem ja_zero : (0 : Int32) = ja_I 0 := rfl
theorem ja_neg (a : Int) : -(ja_I a) = ja_I (-a) := by
  have h : ja_I (-a) = ja_I 0 - ja_I a := by rw [ja_sub]; congr 1; omega
  rw [h, ← ja_zero]
  first | exact (Int32.zero_sub _).symm | simp
theorem ja_eq {a b : Int} (ha : ja_in a) (hb : ja_in b) : ja_I a = ja_I b ↔ a = b := by
  rw [← Int32.toInt_inj, ja_toInt ha, ja_toInt hb]
theorem ja_le {a b : Int} (ha : ja_in a) (hb : ja_in b) : ja_I a ≤ ja_I b ↔ a ≤ b := by
  rw [Int32.le_iff_toInt_le, ja_toInt ha, ja_toInt hb]
theorem ja_lt {a b : Int} (ha : ja_in a) (hb : ja_in b) : ja_I a < ja_I b ↔ a < b := by
  rw [Int32.lt_iff_toInt_lt, ja_toInt ha, ja_toInt hb]
theorem ja_in0 : ja_in 0 := ⟨by decide, by decide⟩
theorem ja_tdiv_in {a b : Int} (ha : ja_in a) (hb : 0 < b) : ja_in (a.tdiv b) := by
  obtain ⟨h1, h2⟩ := ha
  have h := Int.tmod_def a b
  rcases Int.le_total 0 a with h0 | h0
  · rw [Int.tdiv_eq_ediv_of_nonneg h0]
    have h3 := Int.ediv_nonneg h0 (by omega : 0 ≤ b)
    have h4 := Int.ediv_le_self b h0
    exact ⟨by omega, by omega⟩
  · have e : a.tdiv b = -((-a) / b) := by
      rw [← Int.tdiv_eq_ediv_of_nonneg (by omega : 0 ≤ -a), Int.neg_tdiv]
      omega
    have h3 := Int.ediv_nonneg (by omega : 0 ≤ -a) (by omega : 0 ≤ b)
    have h4 := Int.ediv_le_self b (by omega : 0 ≤ -a)
    rw [e]
    exact ⟨by omega, by omega⟩
theorem ja_div {a b : Int} (ha : ja_in a) (hb : ja_in b) (h : 0 < b) : ja_I a / ja_I b = ja_I (a.tdiv b) := by
  have hne : ja_I b ≠ -1 := by
    intro e
    have e2 : (ja_I b).toInt = -1 := by rw [e]; rfl
    rw [ja_toInt hb] at e2
    omega
  rw [← Int32.toInt_inj, Int32.toInt_div_of_ne_right _ _ hne, ja_toInt ha, ja_toInt hb, ja_toInt (ja_tdiv_in ha h)]
theorem ja_ne0 {b : Int} (hb : ja_in b) (h : b ≠ 0) : ¬ ja_I b = 0 := by
  rw [ja_zero, ja_eq hb ja_in0]
  exact h
theorem ja_rem {a b : Int} (ha : ja_in a) (hb : ja_in b) (h : 0 < b) : ja_I a - ja_I a / ja_I b * ja_I b = ja_I (a.tmod b) := by
  rw [ja_div ha hb h, ja_mul, ja_sub, Int.tmod_def, Int.mul_comm b]
theorem ja_clamp {z : Int} (h : ja_in z) : (ja_I z).toNatClampNeg = z.toNat := by
  show (ja_I z).toInt.toNat = z.toNat
  rw [ja_toInt h]
theorem ja_vpin {z : Int} {n : Nat} (h0 : 0 ≤ z) (h1 : z < n) (hn : n ≤ 2147483648) : vp_in (ja_I z) n := by
  have hz : ja_in z := ⟨by omega, by omega⟩
  rw [vp_in_iff, ja_toInt hz]
  exact ⟨h0, h1⟩
theorem ja_byte {z : Int} (h : -128 ≤ z ∧ z ≤ 127) : (Int8.ofInt z).toInt32 = ja_I z := by
  rw [← Int32.toInt_inj, ja_toInt ⟨by omega, by omega⟩]
  first
    | (rw [Int8.toInt_toInt32, Int8.toInt_ofInt_of_le (by omega) (by omega)])
    | (simp [Int8.toInt_ofInt]; omega)
theorem ja_short {z : Int} (h : -32768 ≤ z ∧ z ≤ 32767) : (Int16.ofInt z).toInt32 = ja_I z := by
  rw [← Int32.toInt_inj, ja_toInt ⟨by omega, by omega⟩]
  first
    | (rw [Int16.toInt_toInt32, Int16.toInt_ofInt_of_le (by omega) (by omega)])
    | (simp [Int16.toInt_ofInt]; omega)
theorem ja_Lof (x : Int64) : ja_L x.toInt = x := Int64.ofInt_toInt x
-- memory: a cell's numbers by address and place
abbrev ja_M : Type := Nat → Nat → Int
def ja_up (mem : ja_M) (a j : Nat) (z : Int) : ja_M := fun a' j' => if a' = a ∧ j' = j then z else mem a' j'
theorem ja_up_s (mem : ja_M) (a j : Nat) (z : Int) : ja_up mem a j z a j = z := by simp [ja_up]
theorem ja_up_a {mem : ja_M} {a j a' j' : Nat} {z : Int} (h : a' ≠ a) : ja_up mem a j z a' j' = mem a' j' := by simp [ja_up, h]
theorem ja_up_j {mem : ja_M} {a j a' j' : Nat} {z : Int} (h : j' ≠ j) : ja_up mem a j z a' j' = mem a' j' := by simp [ja_up, h]
theorem ja_up_row {mem : ja_M} {a j a' : Nat} {z : Int} (h : a' ≠ a) : ja_up mem a j z a' = mem a' := by funext q; exact ja_up_a h
/-- what a cell is: an object of a class, place by place (none: a number, some: a fixed value); or an array: its kind (0 int, 1 long, 2 boolean, 3 references), its length, its references -/
abbrev ja_E : Type := (Nat × List (Option Value)) ⊕ (Nat × Nat × (Nat → Option Nat))
abbrev ja_Y : Type := Nat → Option ja_E
def ja_dv (d : Option Value) (z : Int) : Value := match d with | some v => v | none => .int (ja_I z)
def ja_fs : Nat → List (Option Value) → (Nat → Int) → List Value
  | _, [], _ => []
  | j, d :: ds, f => ja_dv d (f j) :: ja_fs (j + 1) ds f
def ja_cell (cA : Nat → ClassId) (e : ja_E) (f : Nat → Int) : va_E := match e with
  | .inl o => .inr (o.1, ja_fs 0 o.2 f)
  | .inr (0, n, _) => .inl (cA 0, n, .inl (fun j => ja_I (f j)))
  | .inr (1, n, _) => .inl (cA 1, n, .inr (.inl (fun j => ja_L (f j))))
  | .inr (2, n, _) => .inl (cA 2, n, .inl (fun j => ja_I (f j)))
  | .inr (_, n, r) => .inl (cA 3, n, .inr (.inr (.inr (.inr r))))
def ja_H (D : va_G) (cA : Nat → ClassId) (B : Nat) (lay : ja_Y) (mem : ja_M) (n : Nat) (H : Heap) : Prop := H.size = n ∧ ∀ (a : Nat) (e : ja_E), lay a = some e → B ≤ a ∧ a < n ∧ va_at D vwCl (a, ja_cell cA e (mem a)) H
def ja_tys (cA : Nat → ClassId) : List (ClassId × FieldType) := [(cA 0, .int), (cA 1, .long), (cA 2, .boolean), (cA 3, .object RX5)]
theorem ja_fs_len : ∀ (ds : List (Option Value)) (i : Nat) (f : Nat → Int), (ja_fs i ds f).length = ds.length
  | [], _, _ => rfl
  | _ :: ds, i, f => by simp [ja_fs, ja_fs_len ds (i + 1) f]
theorem ja_fs_get : ∀ (ds : List (Option Value)) (i : Nat) (f : Nat → Int) (k : Nat) (d : Option Value), ds[k]? = some d → (ja_fs i ds f)[k]? = some (ja_dv d (f (i + k)))
  | [], _, _, k, d, h => by simp at h
  | d0 :: ds, i, f, 0, d, h => by
    simp only [List.getElem?_cons_zero, Option.some.injEq] at h
    subst h
    rfl
  | d0 :: ds, i, f, k + 1, d, h => by
    simp only [List.getElem?_cons_succ] at h
    have := ja_fs_get ds (i + 1) f k d h
    simp only [ja_fs, List.getElem?_cons_succ]
    rw [this, show i + 1 + k = i + (k + 1) by omega]
theorem ja_fs_get0 {ds : List (Option Value)} {f : Nat → Int} {k : Nat} {d : Option Value} (h : ds[k]? = some d) : (ja_fs 0 ds f)[k]? = some (ja_dv d (f k)) := by
  have := ja_fs_get ds 0 f k d h
  rwa [Nat.zero_add] at this
theorem ja_fs_set : ∀ (ds : List (Option Value)) (i : Nat) (f g : Nat → Int) (k : Nat), ds[k]? = some none → (∀ j, j ≠ i + k → g j = f j) → (ja_fs i ds f).set k (.int (ja_I (g (i + k)))) = ja_fs i ds g
  | [], _, _, _, k, h, _ => by simp at h
  | d0 :: ds, i, f, g, 0, h, hg => by
    simp only [List.getElem?_cons_zero, Option.some.injEq] at h
    subst h
    have e : ja_fs (i + 1) ds f = ja_fs (i + 1) ds g := by
      have key : ∀ (ds : List (Option Value)) (j : Nat), i < j → ja_fs j ds f = ja_fs j ds g := by
        intro ds
        induction ds with
        | nil => intro j hj; rfl
        | cons d ds ih =>
          intro j hj
          simp only [ja_fs]
          rw [ih (j + 1) (by omega), hg j (by omega)]
      exact key ds (i + 1) (by omega)
    simp only [ja_fs, List.set_cons_zero]
    rw [e]
    rfl
  | d0 :: ds, i, f, g, k + 1, h, hg => by
    simp only [List.getElem?_cons_succ] at h
    have := ja_fs_set ds (i + 1) f g k h (fun j hj => hg j (by omega))
    simp only [ja_fs, List.set_cons_succ]
    rw [show i + (k + 1) = i + 1 + k by omega, this, hg i (by omega)]
theorem ja_fs_put {ds : List (Option Value)} {mem : ja_M} {a k : Nat} {z : Int} (h : ds[k]? = some none) : (ja_fs 0 ds (mem a)).set k (.int (ja_I z)) = ja_fs 0 ds (ja_up mem a k z a) := by
  have h1 := ja_fs_set ds 0 (mem a) (ja_up mem a k z a) k h (fun j hj => ja_up_j (by omega))
  rw [Nat.zero_add, ja_up_s] at h1
  exact h1
-- locals by place
def ja_al : Nat → List (Option Value) → List (Nat × Value)
  | _, [] => []
  | i, some v :: r => (i, v) :: ja_al (i + 1) r
  | i, none :: r => ja_al (i + 1) r
theorem ja_al_mem : ∀ (ls : List (Option Value)) (i : Nat) (q : Nat × Value), q ∈ ja_al i ls ↔ ∃ k, q.1 = i + k ∧ ls[k]? = some (some q.2)
  | [], i, q => by simp [ja_al]
  | some v :: r, i, q => by
    simp only [ja_al, List.mem_cons]
    rw [ja_al_mem r (i + 1) q]
    constructor
    · rintro (rfl | ⟨k, h1, h2⟩)
      · exact ⟨0, by simp, by simp⟩
      · exact ⟨k + 1, by omega, by simpa using h2⟩
    · rintro ⟨k, h1, h2⟩
      cases k with
      | zero =>
        left
        simp only [List.getElem?_cons_zero, Option.some.injEq] at h2
        obtain ⟨q1, q2⟩ := q
        simp only at h1 h2
        subst h2
        simp [h1]
      | succ k => right; exact ⟨k, by omega, by simpa using h2⟩
  | none :: r, i, q => by
    simp only [ja_al]
    rw [ja_al_mem r (i + 1) q]
    constructor
    · rintro ⟨k, h1, h2⟩
      exact ⟨k + 1, by omega, by simpa using h2⟩
    · rintro ⟨k, h1, h2⟩
      cases k with
      | zero => simp at h2
      | succ k => exact ⟨k, by omega, by simpa using h2⟩
theorem ja_has_at {lsA : Array Slot} {nL : Nat} {ls : List (Option Value)} (h : lv_has lsA nL (ja_al 0 ls)) {k : Nat} {v : Value} (hk : ls[k]? = some (some v)) : lsA[k]? = some (.val v) := by
  have := h.2.2 (k, v) ((ja_al_mem ls 0 (k, v)).mpr ⟨k, by simp, hk⟩)
  exact this
theorem ja_has_sub {lsA : Array Slot} {nL : Nat} {l l' : List (Nat × Value)} (h : lv_has lsA nL l) (hs : ∀ q ∈ l', q ∈ l) : lv_has lsA nL l' := ⟨h.1, h.2.1, fun q hq => h.2.2 q (hs q hq)⟩
/-- the local ahead of a stored one isn't a long -/
def ja_pre (ls : List (Option Value)) : Nat → Bool
  | 0 => true
  | i + 1 => match ls[i]? with | some (some v) => v.category != 2 | _ => true
theorem ja_has_set {lsA : Array Slot} {nL i : Nat} {ls : List (Option Value)} {v : Value} (h : lv_has lsA nL ((i, v) :: (ja_al 0 ls).filter (fun q => !(q.1 == i) && !(q.1 + 1 == i && q.2.category == 2)))) (hp : ja_pre ls i = true) : lv_has lsA nL (ja_al 0 (ls.set i (some v))) := by
  refine ja_has_sub h fun q hq => ?_
  obtain ⟨k, h1, h2⟩ := (ja_al_mem _ 0 q).mp hq
  by_cases hk : k = i
  · subst hk
    rw [List.getElem?_set] at h2
    simp only [if_true] at h2
    by_cases hl : k < ls.length
    · rw [if_pos hl] at h2
      simp only [Option.some.injEq] at h2
      obtain ⟨q1, q2⟩ := q
      simp only at h1 h2
      subst h2
      simp [h1]
    · rw [if_neg hl] at h2
      cases h2
  · rw [List.getElem?_set_ne (Ne.symm hk)] at h2
    refine List.mem_cons_of_mem _ (List.mem_filter.mpr ⟨(ja_al_mem _ 0 q).mpr ⟨k, h1, h2⟩, ?_⟩)
    simp only [Bool.and_eq_true, Bool.not_eq_true', beq_eq_false_iff_ne, ne_eq, Bool.and_eq_false_iff]
    refine ⟨by omega, ?_⟩
    by_cases hk1 : q.1 + 1 = i
    · right
      have : i = k + 1 := by omega
      subst this
      simp only [ja_pre, h2] at hp
      simpa using hp
    · left; exact hk1
theorem ja_has_setL {lsA : Array Slot} {nL i : Nat} {ls : List (Option Value)} {v : Value} (h : lv_has lsA nL ((i, v) :: (ja_al 0 ls).filter (fun q => !(q.1 == i) && (!(q.1 == i + 1) && !(q.1 + 1 == i && q.2.category == 2))))) (hp : ja_pre ls i = true) : lv_has lsA nL (ja_al 0 ((ls.set i (some v)).set (i + 1) none)) := by
  refine ja_has_sub h fun q hq => ?_
  obtain ⟨k, h1, h2⟩ := (ja_al_mem _ 0 q).mp hq
  by_cases hk1 : k = i + 1
  · subst hk1
    rw [List.getElem?_set] at h2
    simp only [if_true] at h2
    split at h2 <;> cases h2
  · rw [List.getElem?_set_ne (Ne.symm hk1)] at h2
    by_cases hk : k = i
    · subst hk
      rw [List.getElem?_set] at h2
      simp only [if_true] at h2
      by_cases hl : k < ls.length
      · rw [if_pos hl] at h2
        simp only [Option.some.injEq] at h2
        obtain ⟨q1, q2⟩ := q
        simp only at h1 h2
        subst h2
        simp [h1]
      · rw [if_neg hl] at h2
        cases h2
    · rw [List.getElem?_set_ne (Ne.symm hk)] at h2
      refine List.mem_cons_of_mem _ (List.mem_filter.mpr ⟨(ja_al_mem _ 0 q).mpr ⟨k, h1, h2⟩, ?_⟩)
      simp only [Bool.and_eq_true, Bool.not_eq_true', beq_eq_false_iff_ne, ne_eq, Bool.and_eq_false_iff]
      refine ⟨by omega, by omega, ?_⟩
      by_cases hk2 : q.1 + 1 = i
      · right
        have : i = k + 1 := by omega
        subst this
        simp only [ja_pre, h2] at hp
        simpa using hp
      · left; exact hk2
def ja_isN : Cond → Bool
  | .fieldLinkNest _ _ _ _ _ _ => true
  | .methodLinkNest _ _ _ _ => true
  | _ => false
def ja_K (D : va_G) (cA : Nat → ClassId) (U : State) : Prop := va_K D vwCl (ja_tys cA) U ∧ va_AO RX5 U ∧ ∀ w ∈ lw_tbl, ja_isN w = true → va_Nw w U
theorem ja_K.warm {D : va_G} {cA : Nat → ClassId} {s U : State} (hW : s.WarmedH U.vm) (h : ja_K D cA s) : ja_K D cA U := by
  refine ⟨va_K.moved hW.alike h.1, va_AO.moved hW.alike h.2.1, fun w hw hn => ?_⟩
  have h1 := h.2.2 w hw hn
  cases w <;> first | exact va_Nw.warmF hW h1 | exact va_Nw.warmM hW h1 | (simp [ja_isN] at hn)
theorem ja_K.call {D : va_G} {cA : Nat → ClassId} {U : State} (g : JFrame) (mk : MethodId) (a : Array Value) (h : ja_K D cA U) : ja_K D cA (U.calling g mk a) := by
  refine ⟨va_K.moved (u := U) (U := U.calling g mk a) (Vm.Alike.refl U.vm) h.1, va_AO.moved (u := U) (U := U.calling g mk a) (Vm.Alike.refl U.vm) h.2.1, fun w hw hn => ?_⟩
  have h1 := h.2.2 w hw hn
  refine va_Nw.same (u := U) ?_ rfl h1
  cases w <;> first | rfl | (simp [ja_isN] at hn)
def lw_tbg : List Cond := lw_tbl.filter goodWord
end
section
abbrev ja_C : Type := Program × Launch × Env × Room × State × MethodId × Array Value × List Frame × Method × Code × va_G × (Nat → ClassId) × Nat × Nat × (State → Prop)
/-- the walk, from a world (layout, memory, its end), a place, the locals and the stack -/
def ja_W (C : ja_C) (cells slots : Nat) (lay : ja_Y) (mem : ja_M) (n pc : Nat) (ls : List (Option Value)) (st : List Value) : Prop := match C with
  | (p, l, e, R, s, m, args, below, meth, c, D, cA, B, nL, Q) => ∀ (H : Heap) (locs : List Loc) (lsA : Array Slot), ja_H D cA B lay mem n H → va_S (fun q => B ≤ q) s.heap H locs → lv_has lsA nL (ja_al 0 ls) → W p l e R s m args below meth c H locs cells slots Q (F0 m pc lsA st)
def ja_F (C : ja_C) (own : String) (cc : ByteArray) (nl : Nat) (rm : Room) : Prop := match C with
  | (p, l, e, R, s, m, args, below, meth, c, D, cA, B, nL, Q) => nL = nl ∧ R = rm ∧ p.tables.exec = Jvm.exec ∧ c.code = cc ∧ c.maxLocals = nL ∧ s.vm.findClass own = some m.cls ∧ (∀ w ∈ lw_tbg, w.before args s = true) ∧ ja_K D cA s ∧ meth.locks = false ∧ B ≤ s.heap.size
section
variable {C : ja_C} {own : String} {cc : ByteArray} {nl : Nat} {rm : Room} {cells slots n : Nat} {lay : ja_Y} {mem : ja_M} {pc : Nat} {ls : List (Option Value)} {st : List Value}
theorem r_iconst (F : ja_F C own cc nl rm) {z : Int} (d : decode cc pc = .ok (.iconst z, 1)) {pc' : Nat} (hpc : pc + 1 = pc') (k : ja_W C cells slots lay mem n pc' ls (.int (ja_I z) :: st)) : ja_W C cells slots lay mem n pc ls (st) := by
  subst hpc
  obtain ⟨p, l, e, R, s, m, args, below, meth, c, D, cA, B, nL, Q⟩ := C
  obtain ⟨hnl, hrm, hx, hb, hml, hown, hts, ⟨hK, hAO, hNw⟩, hlk, hB⟩ := F
  subst hnl; subst hrm
  intro H locs lsA hH hS hl
  exact lv_iconst hx hb d rfl (k H locs lsA hH hS hl)
theorem r_bipush (F : ja_F C own cc nl rm) {z : Int} (hz : -128 ≤ z ∧ z ≤ 127) (d : decode cc pc = .ok (.bipush z, 2)) {pc' : Nat} (hpc : pc + 2 = pc') (k : ja_W C cells slots lay mem n pc' ls (.int (ja_I z) :: st)) : ja_W C cells slots lay mem n pc ls (st) := by
  subst hpc
  obtain ⟨p, l, e, R, s, m, args, below, meth, c, D, cA, B, nL, Q⟩ := C
  obtain ⟨hnl, hrm, hx, hb, hml, hown, hts, ⟨hK, hAO, hNw⟩, hlk, hB⟩ := F
  subst hnl; subst hrm
  intro H locs lsA hH hS hl
  exact lv_bipush hx hb d (ja_byte hz) (k H locs lsA hH hS hl)
theorem r_sipush (F : ja_F C own cc nl rm) {z : Int} (hz : -32768 ≤ z ∧ z ≤ 32767) (d : decode cc pc = .ok (.sipush z, 3)) {pc' : Nat} (hpc : pc + 3 = pc') (k : ja_W C cells slots lay mem n pc' ls (.int (ja_I z) :: st)) : ja_W C cells slots lay mem n pc ls (st) := by
  subst hpc
  obtain ⟨p, l, e, R, s, m, args, below, meth, c, D, cA, B, nL, Q⟩ := C
  obtain ⟨hnl, hrm, hx, hb, hml, hown, hts, ⟨hK, hAO, hNw⟩, hlk, hB⟩ := F
  subst hnl; subst hrm
  intro H locs lsA hH hS hl
  exact lv_sipush hx hb d (ja_short hz) (k H locs lsA hH hS hl)
theorem r_lconst (F : ja_F C own cc nl rm) {z : Fin 2} {v : Int64} (hv : Int64.ofNat (z : Nat) = v) (d : decode cc pc = .ok (.lconst z, 1)) {pc' : Nat} (hpc : pc + 1 = pc') (k : ja_W C cells slots lay mem n pc' ls (.long v :: st)) : ja_W C cells slots lay mem n pc ls (st) := by
  subst hpc
  obtain ⟨p, l, e, R, s, m, args, below, meth, c, D, cA, B, nL, Q⟩ := C
  obtain ⟨hnl, hrm, hx, hb, hml, hown, hts, ⟨hK, hAO, hNw⟩, hlk, hB⟩ := F
  subst hnl; subst hrm
  intro H locs lsA hH hS hl
  exact lv_lconst hx hb d hv (k H locs lsA hH hS hl)
theorem r_ldc2 (F : ja_F C own cc nl rm) {index : Nat} {v : Int64} (hw : Cond.constantLong own index v ∈ lw_tbg) (d : decode cc pc = .ok (.ldc2_w index, 3)) {pc' : Nat} (hpc : pc + 3 = pc') (k : ja_W C cells slots lay mem n pc' ls (.long v :: st)) : ja_W C cells slots lay mem n pc ls (st) := by
  subst hpc
  obtain ⟨p, l, e, R, s, m, args, below, meth, c, D, cA, B, nL, Q⟩ := C
  obtain ⟨hnl, hrm, hx, hb, hml, hown, hts, ⟨hK, hAO, hNw⟩, hlk, hB⟩ := F
  subst hnl; subst hrm
  intro H locs lsA hH hS hl
  exact lv_ldc2 hx hb hown (hts _ hw) d (k H locs lsA hH hS hl)
theorem r_iload_n (F : ja_F C own cc nl rm) {q : Fin 4} {i : Nat} {x : Int32} (hi : (q : Nat) = i) (hv : ls[i]? = some (some (.int x))) (d : decode cc pc = .ok (.iload_n q, 1)) {pc' : Nat} (hpc : pc + 1 = pc') (k : ja_W C cells slots lay mem n pc' ls (.int x :: st)) : ja_W C cells slots lay mem n pc ls (st) := by
  subst hpc
  obtain ⟨p, l, e, R, s, m, args, below, meth, c, D, cA, B, nL, Q⟩ := C
  obtain ⟨hnl, hrm, hx, hb, hml, hown, hts, ⟨hK, hAO, hNw⟩, hlk, hB⟩ := F
  subst hnl; subst hrm
  intro H locs lsA hH hS hl
  exact lv_iload_n hx hb d hi (ja_has_at hl hv) (k H locs lsA hH hS hl)
theorem r_iload (F : ja_F C own cc nl rm) {i : Nat} {x : Int32} (hv : ls[i]? = some (some (.int x))) (d : decode cc pc = .ok (.iload i, 2)) {pc' : Nat} (hpc : pc + 2 = pc') (k : ja_W C cells slots lay mem n pc' ls (.int x :: st)) : ja_W C cells slots lay mem n pc ls (st) := by
  subst hpc
  obtain ⟨p, l, e, R, s, m, args, below, meth, c, D, cA, B, nL, Q⟩ := C
  obtain ⟨hnl, hrm, hx, hb, hml, hown, hts, ⟨hK, hAO, hNw⟩, hlk, hB⟩ := F
  subst hnl; subst hrm
  intro H locs lsA hH hS hl
  exact lv_iload hx hb d (ja_has_at hl hv) (k H locs lsA hH hS hl)
theorem r_lload_n (F : ja_F C own cc nl rm) {q : Fin 4} {i : Nat} {x : Int64} (hi : (q : Nat) = i) (hv : ls[i]? = some (some (.long x))) (d : decode cc pc = .ok (.lload_n q, 1)) {pc' : Nat} (hpc : pc + 1 = pc') (k : ja_W C cells slots lay mem n pc' ls (.long x :: st)) : ja_W C cells slots lay mem n pc ls (st) := by
  subst hpc
  obtain ⟨p, l, e, R, s, m, args, below, meth, c, D, cA, B, nL, Q⟩ := C
  obtain ⟨hnl, hrm, hx, hb, hml, hown, hts, ⟨hK, hAO, hNw⟩, hlk, hB⟩ := F
  subst hnl; subst hrm
  intro H locs lsA hH hS hl
  exact lv_lload_n hx hb d hi (ja_has_at hl hv) (k H locs lsA hH hS hl)
theorem r_lload (F : ja_F C own cc nl rm) {i : Nat} {x : Int64} (hv : ls[i]? = some (some (.long x))) (d : decode cc pc = .ok (.lload i, 2)) {pc' : Nat} (hpc : pc + 2 = pc') (k : ja_W C cells slots lay mem n pc' ls (.long x :: st)) : ja_W C cells slots lay mem n pc ls (st) := by
  subst hpc
  obtain ⟨p, l, e, R, s, m, args, below, meth, c, D, cA, B, nL, Q⟩ := C
  obtain ⟨hnl, hrm, hx, hb, hml, hown, hts, ⟨hK, hAO, hNw⟩, hlk, hB⟩ := F
  subst hnl; subst hrm
  intro H locs lsA hH hS hl
  exact lv_lload hx hb d (ja_has_at hl hv) (k H locs lsA hH hS hl)
theorem r_aload_n (F : ja_F C own cc nl rm) {q : Fin 4} {i : Nat} {x : Nat} (hi : (q : Nat) = i) (hv : ls[i]? = some (some (.ref x))) (d : decode cc pc = .ok (.aload_n q, 1)) {pc' : Nat} (hpc : pc + 1 = pc') (k : ja_W C cells slots lay mem n pc' ls (.ref x :: st)) : ja_W C cells slots lay mem n pc ls (st) := by
  subst hpc
  obtain ⟨p, l, e, R, s, m, args, below, meth, c, D, cA, B, nL, Q⟩ := C
  obtain ⟨hnl, hrm, hx, hb, hml, hown, hts, ⟨hK, hAO, hNw⟩, hlk, hB⟩ := F
  subst hnl; subst hrm
  intro H locs lsA hH hS hl
  exact lv_aload_n hx hb d hi (ja_has_at hl hv) (k H locs lsA hH hS hl)
theorem r_aload (F : ja_F C own cc nl rm) {i : Nat} {x : Nat} (hv : ls[i]? = some (some (.ref x))) (d : decode cc pc = .ok (.aload i, 2)) {pc' : Nat} (hpc : pc + 2 = pc') (k : ja_W C cells slots lay mem n pc' ls (.ref x :: st)) : ja_W C cells slots lay mem n pc ls (st) := by
  subst hpc
  obtain ⟨p, l, e, R, s, m, args, below, meth, c, D, cA, B, nL, Q⟩ := C
  obtain ⟨hnl, hrm, hx, hb, hml, hown, hts, ⟨hK, hAO, hNw⟩, hlk, hB⟩ := F
  subst hnl; subst hrm
  intro H locs lsA hH hS hl
  exact lv_aload hx hb d (ja_has_at hl hv) (k H locs lsA hH hS hl)
theorem ja_nL {lsA : Array Slot} {nL : Nat} {l : List (Nat × Value)} (h : lv_has lsA nL l) : lsA.size = nL := h.1
theorem r_istore_n (F : ja_F C own cc nl rm) {q : Fin 4} {i : Nat} {x : Int32} {ls' : List (Option Value)} (hi : (q : Nat) = i) (hn : i < nl) (hp : ja_pre ls i = true) (hs : (ls.set i (some (.int x))) = ls') (d : decode cc pc = .ok (.istore_n q, 1)) {pc' : Nat} (hpc : pc + 1 = pc') (k : ja_W C cells slots lay mem n pc' ls' (st)) : ja_W C cells slots lay mem n pc ls (.int x :: st) := by
  subst hpc
  obtain ⟨p, l, e, R, s, m, args, below, meth, c, D, cA, B, nL, Q⟩ := C
  obtain ⟨hnl, hrm, hx, hb, hml, hown, hts, ⟨hK, hAO, hNw⟩, hlk, hB⟩ := F
  subst hnl; subst hrm
  intro H locs lsA hH hS hl
  subst hs
  exact lv_istore_n hx hb d hi hl hn rfl (fun ls2 h2 => k H locs ls2 hH hS (ja_has_set h2 hp))
theorem r_istore (F : ja_F C own cc nl rm) {i : Nat} {x : Int32} {ls' : List (Option Value)} (hn : i < nl) (hp : ja_pre ls i = true) (hs : (ls.set i (some (.int x))) = ls') (d : decode cc pc = .ok (.istore i, 2)) {pc' : Nat} (hpc : pc + 2 = pc') (k : ja_W C cells slots lay mem n pc' ls' (st)) : ja_W C cells slots lay mem n pc ls (.int x :: st) := by
  subst hpc
  obtain ⟨p, l, e, R, s, m, args, below, meth, c, D, cA, B, nL, Q⟩ := C
  obtain ⟨hnl, hrm, hx, hb, hml, hown, hts, ⟨hK, hAO, hNw⟩, hlk, hB⟩ := F
  subst hnl; subst hrm
  intro H locs lsA hH hS hl
  subst hs
  exact lv_istore hx hb d hl hn rfl (fun ls2 h2 => k H locs ls2 hH hS (ja_has_set h2 hp))
theorem r_astore_n (F : ja_F C own cc nl rm) {q : Fin 4} {i : Nat} {x : Nat} {ls' : List (Option Value)} (hi : (q : Nat) = i) (hn : i < nl) (hp : ja_pre ls i = true) (hs : (ls.set i (some (.ref x))) = ls') (d : decode cc pc = .ok (.astore_n q, 1)) {pc' : Nat} (hpc : pc + 1 = pc') (k : ja_W C cells slots lay mem n pc' ls' (st)) : ja_W C cells slots lay mem n pc ls (.ref x :: st) := by
  subst hpc
  obtain ⟨p, l, e, R, s, m, args, below, meth, c, D, cA, B, nL, Q⟩ := C
  obtain ⟨hnl, hrm, hx, hb, hml, hown, hts, ⟨hK, hAO, hNw⟩, hlk, hB⟩ := F
  subst hnl; subst hrm
  intro H locs lsA hH hS hl
  subst hs
  exact lv_astore_n hx hb d hi hl hn rfl (fun ls2 h2 => k H locs ls2 hH hS (ja_has_set h2 hp))
theorem r_astore (F : ja_F C own cc nl rm) {i : Nat} {x : Nat} {ls' : List (Option Value)} (hn : i < nl) (hp : ja_pre ls i = true) (hs : (ls.set i (some (.ref x))) = ls') (d : decode cc pc = .ok (.astore i, 2)) {pc' : Nat} (hpc : pc + 2 = pc') (k : ja_W C cells slots lay mem n pc' ls' (st)) : ja_W C cells slots lay mem n pc ls (.ref x :: st) := by
  subst hpc
  obtain ⟨p, l, e, R, s, m, args, below, meth, c, D, cA, B, nL, Q⟩ := C
  obtain ⟨hnl, hrm, hx, hb, hml, hown, hts, ⟨hK, hAO, hNw⟩, hlk, hB⟩ := F
  subst hnl; subst hrm
  intro H locs lsA hH hS hl
  subst hs
  exact lv_astore hx hb d hl hn rfl (fun ls2 h2 => k H locs ls2 hH hS (ja_has_set h2 hp))
theorem r_lstore_n (F : ja_F C own cc nl rm) {q : Fin 4} {i : Nat} {x : Int64} {ls' : List (Option Value)} (hi : (q : Nat) = i) (hn : i + 1 < nl) (hp : ja_pre ls i = true) (hs : ((ls.set i (some (.long x))).set (i + 1) none) = ls') (d : decode cc pc = .ok (.lstore_n q, 1)) {pc' : Nat} (hpc : pc + 1 = pc') (k : ja_W C cells slots lay mem n pc' ls' (st)) : ja_W C cells slots lay mem n pc ls (.long x :: st) := by
  subst hpc
  obtain ⟨p, l, e, R, s, m, args, below, meth, c, D, cA, B, nL, Q⟩ := C
  obtain ⟨hnl, hrm, hx, hb, hml, hown, hts, ⟨hK, hAO, hNw⟩, hlk, hB⟩ := F
  subst hnl; subst hrm
  intro H locs lsA hH hS hl
  subst hs
  exact lv_lstore_n hx hb d hi hl hn rfl (fun ls2 h2 => k H locs ls2 hH hS (ja_has_setL h2 hp))
theorem r_lstore (F : ja_F C own cc nl rm) {i : Nat} {x : Int64} {ls' : List (Option Value)} (hn : i + 1 < nl) (hp : ja_pre ls i = true) (hs : ((ls.set i (some (.long x))).set (i + 1) none) = ls') (d : decode cc pc = .ok (.lstore i, 2)) {pc' : Nat} (hpc : pc + 2 = pc') (k : ja_W C cells slots lay mem n pc' ls' (st)) : ja_W C cells slots lay mem n pc ls (.long x :: st) := by
  subst hpc
  obtain ⟨p, l, e, R, s, m, args, below, meth, c, D, cA, B, nL, Q⟩ := C
  obtain ⟨hnl, hrm, hx, hb, hml, hown, hts, ⟨hK, hAO, hNw⟩, hlk, hB⟩ := F
  subst hnl; subst hrm
  intro H locs lsA hH hS hl
  subst hs
  exact lv_lstore hx hb d hl hn rfl (fun ls2 h2 => k H locs ls2 hH hS (ja_has_setL h2 hp))
theorem r_iinc (F : ja_F C own cc nl rm) {i : Nat} {dz x : Int} {ls' : List (Option Value)} (hv : ls[i]? = some (some (.int (ja_I x)))) (hn : i < nl) (hp : ja_pre ls i = true) (hs : ls.set i (some (.int (ja_I (x + dz)))) = ls') (d : decode cc pc = .ok (.iinc i dz, 3)) {pc' : Nat} (hpc : pc + 3 = pc') (k : ja_W C cells slots lay mem n pc' ls' (st)) : ja_W C cells slots lay mem n pc ls (st) := by
  subst hpc
  obtain ⟨p, l, e, R, s, m, args, below, meth, c, D, cA, B, nL, Q⟩ := C
  obtain ⟨hnl, hrm, hx, hb, hml, hown, hts, ⟨hK, hAO, hNw⟩, hlk, hB⟩ := F
  subst hnl; subst hrm
  intro H locs lsA hH hS hl
  subst hs
  obtain ⟨q, hq⟩ := List.getElem?_of_mem ((ja_al_mem ls 0 (i, .int (ja_I x))).mpr ⟨i, by simp, hv⟩)
  exact lv_iinc (k := q) (v := ja_I (x + dz)) hx hb d hl hq (ja_add x dz) hn rfl (fun ls2 h2 => k H locs ls2 hH hS (ja_has_set h2 hp))
theorem r_iadd (F : ja_F C own cc nl rm) {a b : Int} (d : decode cc pc = .ok (.iadd, 1)) {pc' : Nat} (hpc : pc + 1 = pc') (k : ja_W C cells slots lay mem n pc' ls (.int (ja_I (a + b)) :: st)) : ja_W C cells slots lay mem n pc ls (.int (ja_I b) :: .int (ja_I a) :: st) := by
  subst hpc
  obtain ⟨p, l, e, R, s, m, args, below, meth, c, D, cA, B, nL, Q⟩ := C
  obtain ⟨hnl, hrm, hx, hb, hml, hown, hts, ⟨hK, hAO, hNw⟩, hlk, hB⟩ := F
  subst hnl; subst hrm
  intro H locs lsA hH hS hl
  exact lv_iadd hx hb d (by rw [ja_add]; exact (k H locs lsA hH hS hl))
theorem r_isub (F : ja_F C own cc nl rm) {a b : Int} (d : decode cc pc = .ok (.isub, 1)) {pc' : Nat} (hpc : pc + 1 = pc') (k : ja_W C cells slots lay mem n pc' ls (.int (ja_I (a - b)) :: st)) : ja_W C cells slots lay mem n pc ls (.int (ja_I b) :: .int (ja_I a) :: st) := by
  subst hpc
  obtain ⟨p, l, e, R, s, m, args, below, meth, c, D, cA, B, nL, Q⟩ := C
  obtain ⟨hnl, hrm, hx, hb, hml, hown, hts, ⟨hK, hAO, hNw⟩, hlk, hB⟩ := F
  subst hnl; subst hrm
  intro H locs lsA hH hS hl
  exact lv_isub hx hb d (by rw [ja_sub]; exact (k H locs lsA hH hS hl))
theorem r_imul (F : ja_F C own cc nl rm) {a b : Int} (d : decode cc pc = .ok (.imul, 1)) {pc' : Nat} (hpc : pc + 1 = pc') (k : ja_W C cells slots lay mem n pc' ls (.int (ja_I (a * b)) :: st)) : ja_W C cells slots lay mem n pc ls (.int (ja_I b) :: .int (ja_I a) :: st) := by
  subst hpc
  obtain ⟨p, l, e, R, s, m, args, below, meth, c, D, cA, B, nL, Q⟩ := C
  obtain ⟨hnl, hrm, hx, hb, hml, hown, hts, ⟨hK, hAO, hNw⟩, hlk, hB⟩ := F
  subst hnl; subst hrm
  intro H locs lsA hH hS hl
  exact lv_imul hx hb d (by rw [ja_mul]; exact (k H locs lsA hH hS hl))
theorem r_idiv (F : ja_F C own cc nl rm) {a b : Int} (ha : ja_in a) (hbi : ja_in b) (h0 : 0 < b) (d : decode cc pc = .ok (.idiv, 1)) {pc' : Nat} (hpc : pc + 1 = pc') (k : ja_W C cells slots lay mem n pc' ls (.int (ja_I (a.tdiv b)) :: st)) : ja_W C cells slots lay mem n pc ls (.int (ja_I b) :: .int (ja_I a) :: st) := by
  subst hpc
  obtain ⟨p, l, e, R, s, m, args, below, meth, c, D, cA, B, nL, Q⟩ := C
  obtain ⟨hnl, hrm, hx, hb, hml, hown, hts, ⟨hK, hAO, hNw⟩, hlk, hB⟩ := F
  subst hnl; subst hrm
  intro H locs lsA hH hS hl
  exact lv_idiv hx hb d (ja_ne0 hbi (by omega)) (by rw [ja_div ha hbi h0]; exact (k H locs lsA hH hS hl))
theorem r_irem (F : ja_F C own cc nl rm) {a b : Int} (ha : ja_in a) (hbi : ja_in b) (h0 : 0 < b) (d : decode cc pc = .ok (.irem, 1)) {pc' : Nat} (hpc : pc + 1 = pc') (k : ja_W C cells slots lay mem n pc' ls (.int (ja_I (a.tmod b)) :: st)) : ja_W C cells slots lay mem n pc ls (.int (ja_I b) :: .int (ja_I a) :: st) := by
  subst hpc
  obtain ⟨p, l, e, R, s, m, args, below, meth, c, D, cA, B, nL, Q⟩ := C
  obtain ⟨hnl, hrm, hx, hb, hml, hown, hts, ⟨hK, hAO, hNw⟩, hlk, hB⟩ := F
  subst hnl; subst hrm
  intro H locs lsA hH hS hl
  exact lv_irem hx hb d (ja_ne0 hbi (by omega)) (by rw [ja_rem ha hbi h0]; exact (k H locs lsA hH hS hl))
theorem r_idivP (F : ja_F C own cc nl rm) {a b : Int} (ha : ja_in a) (hbi : ja_in b) (h0 : 0 < b) (ha0 : 0 ≤ a) (d : decode cc pc = .ok (.idiv, 1)) {pc' : Nat} (hpc : pc + 1 = pc') (k : ja_W C cells slots lay mem n pc' ls (.int (ja_I (a / b)) :: st)) : ja_W C cells slots lay mem n pc ls (.int (ja_I b) :: .int (ja_I a) :: st) := by
  subst hpc
  obtain ⟨p, l, e, R, s, m, args, below, meth, c, D, cA, B, nL, Q⟩ := C
  obtain ⟨hnl, hrm, hx, hb, hml, hown, hts, ⟨hK, hAO, hNw⟩, hlk, hB⟩ := F
  subst hnl; subst hrm
  intro H locs lsA hH hS hl
  exact lv_idiv hx hb d (ja_ne0 hbi (by omega)) (by rw [ja_div ha hbi h0, Int.tdiv_eq_ediv_of_nonneg ha0]; exact (k H locs lsA hH hS hl))
theorem r_iremP (F : ja_F C own cc nl rm) {a b : Int} (ha : ja_in a) (hbi : ja_in b) (h0 : 0 < b) (ha0 : 0 ≤ a) (d : decode cc pc = .ok (.irem, 1)) {pc' : Nat} (hpc : pc + 1 = pc') (k : ja_W C cells slots lay mem n pc' ls (.int (ja_I (a % b)) :: st)) : ja_W C cells slots lay mem n pc ls (.int (ja_I b) :: .int (ja_I a) :: st) := by
  subst hpc
  obtain ⟨p, l, e, R, s, m, args, below, meth, c, D, cA, B, nL, Q⟩ := C
  obtain ⟨hnl, hrm, hx, hb, hml, hown, hts, ⟨hK, hAO, hNw⟩, hlk, hB⟩ := F
  subst hnl; subst hrm
  intro H locs lsA hH hS hl
  exact lv_irem hx hb d (ja_ne0 hbi (by omega)) (by rw [ja_rem ha hbi h0, Int.tmod_eq_emod_of_nonneg ha0]; exact (k H locs lsA hH hS hl))
theorem r_ineg (F : ja_F C own cc nl rm) {a : Int} (d : decode cc pc = .ok (.ineg, 1)) {pc' : Nat} (hpc : pc + 1 = pc') (k : ja_W C cells slots lay mem n pc' ls (.int (ja_I (-a)) :: st)) : ja_W C cells slots lay mem n pc ls (.int (ja_I a) :: st) := by
  subst hpc
  obtain ⟨p, l, e, R, s, m, args, below, meth, c, D, cA, B, nL, Q⟩ := C
  obtain ⟨hnl, hrm, hx, hb, hml, hown, hts, ⟨hK, hAO, hNw⟩, hlk, hB⟩ := F
  subst hnl; subst hrm
  intro H locs lsA hH hS hl
  exact lv_ineg hx hb d (by rw [ja_neg]; exact (k H locs lsA hH hS hl))
theorem r_iand (F : ja_F C own cc nl rm) {a b : Int32} {z : Int} (hz : a &&& b = ja_I z) (d : decode cc pc = .ok (.iand, 1)) {pc' : Nat} (hpc : pc + 1 = pc') (k : ja_W C cells slots lay mem n pc' ls (.int (ja_I z) :: st)) : ja_W C cells slots lay mem n pc ls (.int b :: .int a :: st) := by
  subst hpc
  obtain ⟨p, l, e, R, s, m, args, below, meth, c, D, cA, B, nL, Q⟩ := C
  obtain ⟨hnl, hrm, hx, hb, hml, hown, hts, ⟨hK, hAO, hNw⟩, hlk, hB⟩ := F
  subst hnl; subst hrm
  intro H locs lsA hH hS hl
  exact lv_iand hx hb d (by rw [hz]; exact (k H locs lsA hH hS hl))
theorem r_ior (F : ja_F C own cc nl rm) {a b : Int32} {z : Int} (hz : a ||| b = ja_I z) (d : decode cc pc = .ok (.ior, 1)) {pc' : Nat} (hpc : pc + 1 = pc') (k : ja_W C cells slots lay mem n pc' ls (.int (ja_I z) :: st)) : ja_W C cells slots lay mem n pc ls (.int b :: .int a :: st) := by
  subst hpc
  obtain ⟨p, l, e, R, s, m, args, below, meth, c, D, cA, B, nL, Q⟩ := C
  obtain ⟨hnl, hrm, hx, hb, hml, hown, hts, ⟨hK, hAO, hNw⟩, hlk, hB⟩ := F
  subst hnl; subst hrm
  intro H locs lsA hH hS hl
  exact lv_ior hx hb d (by rw [hz]; exact (k H locs lsA hH hS hl))
theorem r_ixor (F : ja_F C own cc nl rm) {a b : Int32} {z : Int} (hz : a ^^^ b = ja_I z) (d : decode cc pc = .ok (.ixor, 1)) {pc' : Nat} (hpc : pc + 1 = pc') (k : ja_W C cells slots lay mem n pc' ls (.int (ja_I z) :: st)) : ja_W C cells slots lay mem n pc ls (.int b :: .int a :: st) := by
  subst hpc
  obtain ⟨p, l, e, R, s, m, args, below, meth, c, D, cA, B, nL, Q⟩ := C
  obtain ⟨hnl, hrm, hx, hb, hml, hown, hts, ⟨hK, hAO, hNw⟩, hlk, hB⟩ := F
  subst hnl; subst hrm
  intro H locs lsA hH hS hl
  exact lv_ixor hx hb d (by rw [hz]; exact (k H locs lsA hH hS hl))
theorem r_ishl (F : ja_F C own cc nl rm) {a b : Int32} {z : Int} (hz : a <<< (b &&& 31) = ja_I z) (d : decode cc pc = .ok (.ishl, 1)) {pc' : Nat} (hpc : pc + 1 = pc') (k : ja_W C cells slots lay mem n pc' ls (.int (ja_I z) :: st)) : ja_W C cells slots lay mem n pc ls (.int b :: .int a :: st) := by
  subst hpc
  obtain ⟨p, l, e, R, s, m, args, below, meth, c, D, cA, B, nL, Q⟩ := C
  obtain ⟨hnl, hrm, hx, hb, hml, hown, hts, ⟨hK, hAO, hNw⟩, hlk, hB⟩ := F
  subst hnl; subst hrm
  intro H locs lsA hH hS hl
  exact lv_ishl hx hb d (by rw [hz]; exact (k H locs lsA hH hS hl))
theorem r_ladd (F : ja_F C own cc nl rm) {a b : Int64} (d : decode cc pc = .ok (.ladd, 1)) {pc' : Nat} (hpc : pc + 1 = pc') (k : ja_W C cells slots lay mem n pc' ls (.long (a + b) :: st)) : ja_W C cells slots lay mem n pc ls (.long b :: .long a :: st) := by
  subst hpc
  obtain ⟨p, l, e, R, s, m, args, below, meth, c, D, cA, B, nL, Q⟩ := C
  obtain ⟨hnl, hrm, hx, hb, hml, hown, hts, ⟨hK, hAO, hNw⟩, hlk, hB⟩ := F
  subst hnl; subst hrm
  intro H locs lsA hH hS hl
  exact lv_ladd hx hb d (k H locs lsA hH hS hl)
theorem r_lsub (F : ja_F C own cc nl rm) {a b : Int64} (d : decode cc pc = .ok (.lsub, 1)) {pc' : Nat} (hpc : pc + 1 = pc') (k : ja_W C cells slots lay mem n pc' ls (.long (a - b) :: st)) : ja_W C cells slots lay mem n pc ls (.long b :: .long a :: st) := by
  subst hpc
  obtain ⟨p, l, e, R, s, m, args, below, meth, c, D, cA, B, nL, Q⟩ := C
  obtain ⟨hnl, hrm, hx, hb, hml, hown, hts, ⟨hK, hAO, hNw⟩, hlk, hB⟩ := F
  subst hnl; subst hrm
  intro H locs lsA hH hS hl
  exact lv_lsub hx hb d (k H locs lsA hH hS hl)
theorem r_lmul (F : ja_F C own cc nl rm) {a b : Int64} (d : decode cc pc = .ok (.lmul, 1)) {pc' : Nat} (hpc : pc + 1 = pc') (k : ja_W C cells slots lay mem n pc' ls (.long (a * b) :: st)) : ja_W C cells slots lay mem n pc ls (.long b :: .long a :: st) := by
  subst hpc
  obtain ⟨p, l, e, R, s, m, args, below, meth, c, D, cA, B, nL, Q⟩ := C
  obtain ⟨hnl, hrm, hx, hb, hml, hown, hts, ⟨hK, hAO, hNw⟩, hlk, hB⟩ := F
  subst hnl; subst hrm
  intro H locs lsA hH hS hl
  exact lv_lmul hx hb d (k H locs lsA hH hS hl)
theorem r_land (F : ja_F C own cc nl rm) {a b : Int64} (d : decode cc pc = .ok (.land, 1)) {pc' : Nat} (hpc : pc + 1 = pc') (k : ja_W C cells slots lay mem n pc' ls (.long (a &&& b) :: st)) : ja_W C cells slots lay mem n pc ls (.long b :: .long a :: st) := by
  subst hpc
  obtain ⟨p, l, e, R, s, m, args, below, meth, c, D, cA, B, nL, Q⟩ := C
  obtain ⟨hnl, hrm, hx, hb, hml, hown, hts, ⟨hK, hAO, hNw⟩, hlk, hB⟩ := F
  subst hnl; subst hrm
  intro H locs lsA hH hS hl
  exact lv_land hx hb d (k H locs lsA hH hS hl)
theorem r_lor (F : ja_F C own cc nl rm) {a b : Int64} (d : decode cc pc = .ok (.lor, 1)) {pc' : Nat} (hpc : pc + 1 = pc') (k : ja_W C cells slots lay mem n pc' ls (.long (a ||| b) :: st)) : ja_W C cells slots lay mem n pc ls (.long b :: .long a :: st) := by
  subst hpc
  obtain ⟨p, l, e, R, s, m, args, below, meth, c, D, cA, B, nL, Q⟩ := C
  obtain ⟨hnl, hrm, hx, hb, hml, hown, hts, ⟨hK, hAO, hNw⟩, hlk, hB⟩ := F
  subst hnl; subst hrm
  intro H locs lsA hH hS hl
  exact lv_lor hx hb d (k H locs lsA hH hS hl)
theorem r_lxor (F : ja_F C own cc nl rm) {a b : Int64} (d : decode cc pc = .ok (.lxor, 1)) {pc' : Nat} (hpc : pc + 1 = pc') (k : ja_W C cells slots lay mem n pc' ls (.long (a ^^^ b) :: st)) : ja_W C cells slots lay mem n pc ls (.long b :: .long a :: st) := by
  subst hpc
  obtain ⟨p, l, e, R, s, m, args, below, meth, c, D, cA, B, nL, Q⟩ := C
  obtain ⟨hnl, hrm, hx, hb, hml, hown, hts, ⟨hK, hAO, hNw⟩, hlk, hB⟩ := F
  subst hnl; subst hrm
  intro H locs lsA hH hS hl
  exact lv_lxor hx hb d (k H locs lsA hH hS hl)
theorem r_lshl (F : ja_F C own cc nl rm) {a : Int64} {b : Int32} (d : decode cc pc = .ok (.lshl, 1)) {pc' : Nat} (hpc : pc + 1 = pc') (k : ja_W C cells slots lay mem n pc' ls (.long (a <<< (b.toInt64 &&& 63)) :: st)) : ja_W C cells slots lay mem n pc ls (.int b :: .long a :: st) := by
  subst hpc
  obtain ⟨p, l, e, R, s, m, args, below, meth, c, D, cA, B, nL, Q⟩ := C
  obtain ⟨hnl, hrm, hx, hb, hml, hown, hts, ⟨hK, hAO, hNw⟩, hlk, hB⟩ := F
  subst hnl; subst hrm
  intro H locs lsA hH hS hl
  exact lv_lshl hx hb d rfl (k H locs lsA hH hS hl)
theorem r_lshr (F : ja_F C own cc nl rm) {a : Int64} {b : Int32} (d : decode cc pc = .ok (.lshr, 1)) {pc' : Nat} (hpc : pc + 1 = pc') (k : ja_W C cells slots lay mem n pc' ls (.long (a >>> (b.toInt64 &&& 63)) :: st)) : ja_W C cells slots lay mem n pc ls (.int b :: .long a :: st) := by
  subst hpc
  obtain ⟨p, l, e, R, s, m, args, below, meth, c, D, cA, B, nL, Q⟩ := C
  obtain ⟨hnl, hrm, hx, hb, hml, hown, hts, ⟨hK, hAO, hNw⟩, hlk, hB⟩ := F
  subst hnl; subst hrm
  intro H locs lsA hH hS hl
  exact lv_lshr hx hb d rfl (k H locs lsA hH hS hl)
theorem r_lushr (F : ja_F C own cc nl rm) {a : Int64} {b : Int32} (d : decode cc pc = .ok (.lushr, 1)) {pc' : Nat} (hpc : pc + 1 = pc') (k : ja_W C cells slots lay mem n pc' ls (.long ((a.toUInt64 >>> (b.toInt64.toUInt64 &&& Int64.toUInt64 63)).toInt64) :: st)) : ja_W C cells slots lay mem n pc ls (.int b :: .long a :: st) := by
  subst hpc
  obtain ⟨p, l, e, R, s, m, args, below, meth, c, D, cA, B, nL, Q⟩ := C
  obtain ⟨hnl, hrm, hx, hb, hml, hown, hts, ⟨hK, hAO, hNw⟩, hlk, hB⟩ := F
  subst hnl; subst hrm
  intro H locs lsA hH hS hl
  exact lv_lushr hx hb d rfl (k H locs lsA hH hS hl)
theorem r_i2l (F : ja_F C own cc nl rm) {a : Int32} (d : decode cc pc = .ok (.i2l, 1)) {pc' : Nat} (hpc : pc + 1 = pc') (k : ja_W C cells slots lay mem n pc' ls (.long a.toInt64 :: st)) : ja_W C cells slots lay mem n pc ls (.int a :: st) := by
  subst hpc
  obtain ⟨p, l, e, R, s, m, args, below, meth, c, D, cA, B, nL, Q⟩ := C
  obtain ⟨hnl, hrm, hx, hb, hml, hown, hts, ⟨hK, hAO, hNw⟩, hlk, hB⟩ := F
  subst hnl; subst hrm
  intro H locs lsA hH hS hl
  exact lv_i2l hx hb d rfl (k H locs lsA hH hS hl)
theorem r_l2i (F : ja_F C own cc nl rm) {a : Int64} (d : decode cc pc = .ok (.l2i, 1)) {pc' : Nat} (hpc : pc + 1 = pc') (k : ja_W C cells slots lay mem n pc' ls (.int a.toInt32 :: st)) : ja_W C cells slots lay mem n pc ls (.long a :: st) := by
  subst hpc
  obtain ⟨p, l, e, R, s, m, args, below, meth, c, D, cA, B, nL, Q⟩ := C
  obtain ⟨hnl, hrm, hx, hb, hml, hown, hts, ⟨hK, hAO, hNw⟩, hlk, hB⟩ := F
  subst hnl; subst hrm
  intro H locs lsA hH hS hl
  exact lv_l2i hx hb d rfl (k H locs lsA hH hS hl)
theorem r_lcmp (F : ja_F C own cc nl rm) {a b : Int64} (d : decode cc pc = .ok (.lcmp, 1)) {pc' : Nat} (hpc : pc + 1 = pc') (k : ja_W C cells slots lay mem n pc' ls (.int (lg_cmp a b) :: st)) : ja_W C cells slots lay mem n pc ls (.long b :: .long a :: st) := by
  subst hpc
  obtain ⟨p, l, e, R, s, m, args, below, meth, c, D, cA, B, nL, Q⟩ := C
  obtain ⟨hnl, hrm, hx, hb, hml, hown, hts, ⟨hK, hAO, hNw⟩, hlk, hB⟩ := F
  subst hnl; subst hrm
  intro H locs lsA hH hS hl
  exact W.lcmp hx hb d (k H locs lsA hH hS hl)
theorem r_dup (F : ja_F C own cc nl rm) {v : Value} (hc : v.category = 1) (d : decode cc pc = .ok (.dup, 1)) {pc' : Nat} (hpc : pc + 1 = pc') (k : ja_W C cells slots lay mem n pc' ls (v :: v :: st)) : ja_W C cells slots lay mem n pc ls (v :: st) := by
  subst hpc
  obtain ⟨p, l, e, R, s, m, args, below, meth, c, D, cA, B, nL, Q⟩ := C
  obtain ⟨hnl, hrm, hx, hb, hml, hown, hts, ⟨hK, hAO, hNw⟩, hlk, hB⟩ := F
  subst hnl; subst hrm
  intro H locs lsA hH hS hl
  exact lv_dup hx hb d hc (k H locs lsA hH hS hl)
theorem r_dup2 (F : ja_F C own cc nl rm) {u v : Value} (hu : u.category = 1) (hc : v.category = 1) (d : decode cc pc = .ok (.dup2, 1)) {pc' : Nat} (hpc : pc + 1 = pc') (k : ja_W C cells slots lay mem n pc' ls (u :: v :: u :: v :: st)) : ja_W C cells slots lay mem n pc ls (u :: v :: st) := by
  subst hpc
  obtain ⟨p, l, e, R, s, m, args, below, meth, c, D, cA, B, nL, Q⟩ := C
  obtain ⟨hnl, hrm, hx, hb, hml, hown, hts, ⟨hK, hAO, hNw⟩, hlk, hB⟩ := F
  subst hnl; subst hrm
  intro H locs lsA hH hS hl
  exact lv_dup2_11 hx hb d hu hc (k H locs lsA hH hS hl)
theorem r_dup2L (F : ja_F C own cc nl rm) {v : Value} (hc : v.category = 2) (d : decode cc pc = .ok (.dup2, 1)) {pc' : Nat} (hpc : pc + 1 = pc') (k : ja_W C cells slots lay mem n pc' ls (v :: v :: st)) : ja_W C cells slots lay mem n pc ls (v :: st) := by
  subst hpc
  obtain ⟨p, l, e, R, s, m, args, below, meth, c, D, cA, B, nL, Q⟩ := C
  obtain ⟨hnl, hrm, hx, hb, hml, hown, hts, ⟨hK, hAO, hNw⟩, hlk, hB⟩ := F
  subst hnl; subst hrm
  intro H locs lsA hH hS hl
  exact lv_dup2_2 hx hb d hc (k H locs lsA hH hS hl)
theorem r_pop (F : ja_F C own cc nl rm) {v : Value} (hc : v.category = 1) (d : decode cc pc = .ok (.pop, 1)) {pc' : Nat} (hpc : pc + 1 = pc') (k : ja_W C cells slots lay mem n pc' ls (st)) : ja_W C cells slots lay mem n pc ls (v :: st) := by
  subst hpc
  obtain ⟨p, l, e, R, s, m, args, below, meth, c, D, cA, B, nL, Q⟩ := C
  obtain ⟨hnl, hrm, hx, hb, hml, hown, hts, ⟨hK, hAO, hNw⟩, hlk, hB⟩ := F
  subst hnl; subst hrm
  intro H locs lsA hH hS hl
  exact lv_pop hx hb d hc (k H locs lsA hH hS hl)
theorem r_eqi {x : Int32} {z : Int} (h : x = ja_I z) (k : ja_W C cells slots lay mem n pc ls (.int (ja_I z) :: st)) : ja_W C cells slots lay mem n pc ls (.int x :: st) := by rw [h]; exact k
theorem r_eql {x y : Int64} (h : x = y) (k : ja_W C cells slots lay mem n pc ls (.long y :: st)) : ja_W C cells slots lay mem n pc ls (.long x :: st) := by rw [h]; exact k
theorem r_eqz {x z : Int} (h : x = z) (k : ja_W C cells slots lay mem n pc ls (.int (ja_I z) :: st)) : ja_W C cells slots lay mem n pc ls (.int (ja_I x) :: st) := by rw [h]; exact k
theorem r_pc {pc' : Nat} (h : pc = pc') (k : ja_W C cells slots lay mem n pc' ls st) : ja_W C cells slots lay mem n pc ls st := h ▸ k
theorem r_mem {mem' : ja_M} (h : mem = mem') (k : ja_W C cells slots lay mem' n pc ls st) : ja_W C cells slots lay mem n pc ls st := h ▸ k
theorem r_icmp_eq (F : ja_F C own cc nl rm) {a b : Int} (ha1 : ja_in a) (hb1 : ja_in b) {off : Int} {tgt : Nat} (d : decode cc pc = .ok (.if_icmp .eq off, 3)) {pc' : Nat} (hpc : pc + 3 = pc') (ht : (pc : Int) + off = (tgt : Int)) (kt : a = b → ja_W C cells slots lay mem n tgt ls st) (kf : ¬ (a = b) → ja_W C cells slots lay mem n pc' ls st) : ja_W C cells slots lay mem n pc ls (.int (ja_I b) :: .int (ja_I a) :: st) := by
  subst hpc
  obtain ⟨p, l, e, R, s, m, args, below, meth, c, D, cA, B, nL, Q⟩ := C
  obtain ⟨hnl, hrm, hx, hb, hml, hown, hts, ⟨hK, hAO, hNw⟩, hlk, hB⟩ := F
  subst hnl; subst hrm
  intro H locs lsA hH hS hl
  exact lv_icmp_eq hx hb d ht (fun h => kt ((ja_eq ha1 hb1).mp h) H locs lsA hH hS hl) (fun h => kf (fun q => h ((ja_eq ha1 hb1).mpr q)) H locs lsA hH hS hl)
theorem r_if_eq (F : ja_F C own cc nl rm) {a : Int} (ha1 : ja_in a) {off : Int} {tgt : Nat} (d : decode cc pc = .ok (.ifCond .eq off, 3)) {pc' : Nat} (hpc : pc + 3 = pc') (ht : (pc : Int) + off = (tgt : Int)) (kt : a = 0 → ja_W C cells slots lay mem n tgt ls st) (kf : ¬ (a = 0) → ja_W C cells slots lay mem n pc' ls st) : ja_W C cells slots lay mem n pc ls (.int (ja_I a) :: st) := by
  subst hpc
  obtain ⟨p, l, e, R, s, m, args, below, meth, c, D, cA, B, nL, Q⟩ := C
  obtain ⟨hnl, hrm, hx, hb, hml, hown, hts, ⟨hK, hAO, hNw⟩, hlk, hB⟩ := F
  subst hnl; subst hrm
  intro H locs lsA hH hS hl
  exact lv_if_eq hx hb d ht (fun h => kt ((ja_eq ha1 ja_in0).mp h) H locs lsA hH hS hl) (fun h => kf (fun q => h ((ja_eq ha1 ja_in0).mpr q)) H locs lsA hH hS hl)
theorem r_icmp_ne (F : ja_F C own cc nl rm) {a b : Int} (ha1 : ja_in a) (hb1 : ja_in b) {off : Int} {tgt : Nat} (d : decode cc pc = .ok (.if_icmp .ne off, 3)) {pc' : Nat} (hpc : pc + 3 = pc') (ht : (pc : Int) + off = (tgt : Int)) (kt : ¬ a = b → ja_W C cells slots lay mem n tgt ls st) (kf : a = b → ja_W C cells slots lay mem n pc' ls st) : ja_W C cells slots lay mem n pc ls (.int (ja_I b) :: .int (ja_I a) :: st) := by
  subst hpc
  obtain ⟨p, l, e, R, s, m, args, below, meth, c, D, cA, B, nL, Q⟩ := C
  obtain ⟨hnl, hrm, hx, hb, hml, hown, hts, ⟨hK, hAO, hNw⟩, hlk, hB⟩ := F
  subst hnl; subst hrm
  intro H locs lsA hH hS hl
  exact lv_icmp_ne hx hb d ht (fun h => kt (fun q => h ((ja_eq ha1 hb1).mpr q)) H locs lsA hH hS hl) (fun h => kf ((ja_eq ha1 hb1).mp h) H locs lsA hH hS hl)
theorem r_if_ne (F : ja_F C own cc nl rm) {a : Int} (ha1 : ja_in a) {off : Int} {tgt : Nat} (d : decode cc pc = .ok (.ifCond .ne off, 3)) {pc' : Nat} (hpc : pc + 3 = pc') (ht : (pc : Int) + off = (tgt : Int)) (kt : ¬ a = 0 → ja_W C cells slots lay mem n tgt ls st) (kf : a = 0 → ja_W C cells slots lay mem n pc' ls st) : ja_W C cells slots lay mem n pc ls (.int (ja_I a) :: st) := by
  subst hpc
  obtain ⟨p, l, e, R, s, m, args, below, meth, c, D, cA, B, nL, Q⟩ := C
  obtain ⟨hnl, hrm, hx, hb, hml, hown, hts, ⟨hK, hAO, hNw⟩, hlk, hB⟩ := F
  subst hnl; subst hrm
  intro H locs lsA hH hS hl
  exact lv_if_ne hx hb d ht (fun h => kt (fun q => h ((ja_eq ha1 ja_in0).mpr q)) H locs lsA hH hS hl) (fun h => kf ((ja_eq ha1 ja_in0).mp h) H locs lsA hH hS hl)
theorem r_icmp_lt (F : ja_F C own cc nl rm) {a b : Int} (ha1 : ja_in a) (hb1 : ja_in b) {off : Int} {tgt : Nat} (d : decode cc pc = .ok (.if_icmp .lt off, 3)) {pc' : Nat} (hpc : pc + 3 = pc') (ht : (pc : Int) + off = (tgt : Int)) (kt : a < b → ja_W C cells slots lay mem n tgt ls st) (kf : ¬ (a < b) → ja_W C cells slots lay mem n pc' ls st) : ja_W C cells slots lay mem n pc ls (.int (ja_I b) :: .int (ja_I a) :: st) := by
  subst hpc
  obtain ⟨p, l, e, R, s, m, args, below, meth, c, D, cA, B, nL, Q⟩ := C
  obtain ⟨hnl, hrm, hx, hb, hml, hown, hts, ⟨hK, hAO, hNw⟩, hlk, hB⟩ := F
  subst hnl; subst hrm
  intro H locs lsA hH hS hl
  exact lv_icmp_lt hx hb d ht (fun h => kt ((ja_lt ha1 hb1).mp h) H locs lsA hH hS hl) (fun h => kf (fun q => h ((ja_lt ha1 hb1).mpr q)) H locs lsA hH hS hl)
theorem r_if_lt (F : ja_F C own cc nl rm) {a : Int} (ha1 : ja_in a) {off : Int} {tgt : Nat} (d : decode cc pc = .ok (.ifCond .lt off, 3)) {pc' : Nat} (hpc : pc + 3 = pc') (ht : (pc : Int) + off = (tgt : Int)) (kt : a < 0 → ja_W C cells slots lay mem n tgt ls st) (kf : ¬ (a < 0) → ja_W C cells slots lay mem n pc' ls st) : ja_W C cells slots lay mem n pc ls (.int (ja_I a) :: st) := by
  subst hpc
  obtain ⟨p, l, e, R, s, m, args, below, meth, c, D, cA, B, nL, Q⟩ := C
  obtain ⟨hnl, hrm, hx, hb, hml, hown, hts, ⟨hK, hAO, hNw⟩, hlk, hB⟩ := F
  subst hnl; subst hrm
  intro H locs lsA hH hS hl
  exact lv_if_lt hx hb d ht (fun h => kt ((ja_lt ha1 ja_in0).mp h) H locs lsA hH hS hl) (fun h => kf (fun q => h ((ja_lt ha1 ja_in0).mpr q)) H locs lsA hH hS hl)
theorem r_icmp_ge (F : ja_F C own cc nl rm) {a b : Int} (ha1 : ja_in a) (hb1 : ja_in b) {off : Int} {tgt : Nat} (d : decode cc pc = .ok (.if_icmp .ge off, 3)) {pc' : Nat} (hpc : pc + 3 = pc') (ht : (pc : Int) + off = (tgt : Int)) (kt : b ≤ a → ja_W C cells slots lay mem n tgt ls st) (kf : ¬ (b ≤ a) → ja_W C cells slots lay mem n pc' ls st) : ja_W C cells slots lay mem n pc ls (.int (ja_I b) :: .int (ja_I a) :: st) := by
  subst hpc
  obtain ⟨p, l, e, R, s, m, args, below, meth, c, D, cA, B, nL, Q⟩ := C
  obtain ⟨hnl, hrm, hx, hb, hml, hown, hts, ⟨hK, hAO, hNw⟩, hlk, hB⟩ := F
  subst hnl; subst hrm
  intro H locs lsA hH hS hl
  exact lv_icmp_ge hx hb d ht (fun h => kt ((ja_le hb1 ha1).mp h) H locs lsA hH hS hl) (fun h => kf (fun q => h ((ja_le hb1 ha1).mpr q)) H locs lsA hH hS hl)
theorem r_if_ge (F : ja_F C own cc nl rm) {a : Int} (ha1 : ja_in a) {off : Int} {tgt : Nat} (d : decode cc pc = .ok (.ifCond .ge off, 3)) {pc' : Nat} (hpc : pc + 3 = pc') (ht : (pc : Int) + off = (tgt : Int)) (kt : 0 ≤ a → ja_W C cells slots lay mem n tgt ls st) (kf : ¬ (0 ≤ a) → ja_W C cells slots lay mem n pc' ls st) : ja_W C cells slots lay mem n pc ls (.int (ja_I a) :: st) := by
  subst hpc
  obtain ⟨p, l, e, R, s, m, args, below, meth, c, D, cA, B, nL, Q⟩ := C
  obtain ⟨hnl, hrm, hx, hb, hml, hown, hts, ⟨hK, hAO, hNw⟩, hlk, hB⟩ := F
  subst hnl; subst hrm
  intro H locs lsA hH hS hl
  exact lv_if_ge hx hb d ht (fun h => kt ((ja_le ja_in0 ha1).mp h) H locs lsA hH hS hl) (fun h => kf (fun q => h ((ja_le ja_in0 ha1).mpr q)) H locs lsA hH hS hl)
theorem r_icmp_gt (F : ja_F C own cc nl rm) {a b : Int} (ha1 : ja_in a) (hb1 : ja_in b) {off : Int} {tgt : Nat} (d : decode cc pc = .ok (.if_icmp .gt off, 3)) {pc' : Nat} (hpc : pc + 3 = pc') (ht : (pc : Int) + off = (tgt : Int)) (kt : b < a → ja_W C cells slots lay mem n tgt ls st) (kf : ¬ (b < a) → ja_W C cells slots lay mem n pc' ls st) : ja_W C cells slots lay mem n pc ls (.int (ja_I b) :: .int (ja_I a) :: st) := by
  subst hpc
  obtain ⟨p, l, e, R, s, m, args, below, meth, c, D, cA, B, nL, Q⟩ := C
  obtain ⟨hnl, hrm, hx, hb, hml, hown, hts, ⟨hK, hAO, hNw⟩, hlk, hB⟩ := F
  subst hnl; subst hrm
  intro H locs lsA hH hS hl
  exact lv_icmp_gt hx hb d ht (fun h => kt ((ja_lt hb1 ha1).mp h) H locs lsA hH hS hl) (fun h => kf (fun q => h ((ja_lt hb1 ha1).mpr q)) H locs lsA hH hS hl)
theorem r_if_gt (F : ja_F C own cc nl rm) {a : Int} (ha1 : ja_in a) {off : Int} {tgt : Nat} (d : decode cc pc = .ok (.ifCond .gt off, 3)) {pc' : Nat} (hpc : pc + 3 = pc') (ht : (pc : Int) + off = (tgt : Int)) (kt : 0 < a → ja_W C cells slots lay mem n tgt ls st) (kf : ¬ (0 < a) → ja_W C cells slots lay mem n pc' ls st) : ja_W C cells slots lay mem n pc ls (.int (ja_I a) :: st) := by
  subst hpc
  obtain ⟨p, l, e, R, s, m, args, below, meth, c, D, cA, B, nL, Q⟩ := C
  obtain ⟨hnl, hrm, hx, hb, hml, hown, hts, ⟨hK, hAO, hNw⟩, hlk, hB⟩ := F
  subst hnl; subst hrm
  intro H locs lsA hH hS hl
  exact lv_if_gt hx hb d ht (fun h => kt ((ja_lt ja_in0 ha1).mp h) H locs lsA hH hS hl) (fun h => kf (fun q => h ((ja_lt ja_in0 ha1).mpr q)) H locs lsA hH hS hl)
theorem r_icmp_le (F : ja_F C own cc nl rm) {a b : Int} (ha1 : ja_in a) (hb1 : ja_in b) {off : Int} {tgt : Nat} (d : decode cc pc = .ok (.if_icmp .le off, 3)) {pc' : Nat} (hpc : pc + 3 = pc') (ht : (pc : Int) + off = (tgt : Int)) (kt : a ≤ b → ja_W C cells slots lay mem n tgt ls st) (kf : ¬ (a ≤ b) → ja_W C cells slots lay mem n pc' ls st) : ja_W C cells slots lay mem n pc ls (.int (ja_I b) :: .int (ja_I a) :: st) := by
  subst hpc
  obtain ⟨p, l, e, R, s, m, args, below, meth, c, D, cA, B, nL, Q⟩ := C
  obtain ⟨hnl, hrm, hx, hb, hml, hown, hts, ⟨hK, hAO, hNw⟩, hlk, hB⟩ := F
  subst hnl; subst hrm
  intro H locs lsA hH hS hl
  exact lv_icmp_le hx hb d ht (fun h => kt ((ja_le ha1 hb1).mp h) H locs lsA hH hS hl) (fun h => kf (fun q => h ((ja_le ha1 hb1).mpr q)) H locs lsA hH hS hl)
theorem r_if_le (F : ja_F C own cc nl rm) {a : Int} (ha1 : ja_in a) {off : Int} {tgt : Nat} (d : decode cc pc = .ok (.ifCond .le off, 3)) {pc' : Nat} (hpc : pc + 3 = pc') (ht : (pc : Int) + off = (tgt : Int)) (kt : a ≤ 0 → ja_W C cells slots lay mem n tgt ls st) (kf : ¬ (a ≤ 0) → ja_W C cells slots lay mem n pc' ls st) : ja_W C cells slots lay mem n pc ls (.int (ja_I a) :: st) := by
  subst hpc
  obtain ⟨p, l, e, R, s, m, args, below, meth, c, D, cA, B, nL, Q⟩ := C
  obtain ⟨hnl, hrm, hx, hb, hml, hown, hts, ⟨hK, hAO, hNw⟩, hlk, hB⟩ := F
  subst hnl; subst hrm
  intro H locs lsA hH hS hl
  exact lv_if_le hx hb d ht (fun h => kt ((ja_le ha1 ja_in0).mp h) H locs lsA hH hS hl) (fun h => kf (fun q => h ((ja_le ha1 ja_in0).mpr q)) H locs lsA hH hS hl)
theorem r_goto (F : ja_F C own cc nl rm) {off : Int} {tgt : Nat} (d : decode cc pc = .ok (.goto off, 3)) (ht : (pc : Int) + off = (tgt : Int)) (k : ja_W C cells slots lay mem n tgt ls st) : ja_W C cells slots lay mem n pc ls st := by
  obtain ⟨p, l, e, R, s, m, args, below, meth, c, D, cA, B, nL, Q⟩ := C
  obtain ⟨hnl, hrm, hx, hb, hml, hown, hts, ⟨hK, hAO, hNw⟩, hlk, hB⟩ := F
  subst hnl; subst hrm
  intro H locs lsA hH hS hl
  exact lv_goto hx hb d ht (k H locs lsA hH hS hl)
theorem r_nonnull (F : ja_F C own cc nl rm) {x : Nat} {off : Int} {tgt : Nat} (d : decode cc pc = .ok (.ifnonnull off, 3)) (ht : (pc : Int) + off = (tgt : Int)) (k : ja_W C cells slots lay mem n tgt ls st) : ja_W C cells slots lay mem n pc ls (.ref x :: st) := by
  obtain ⟨p, l, e, R, s, m, args, below, meth, c, D, cA, B, nL, Q⟩ := C
  obtain ⟨hnl, hrm, hx, hb, hml, hown, hts, ⟨hK, hAO, hNw⟩, hlk, hB⟩ := F
  subst hnl; subst hrm
  intro H locs lsA hH hS hl
  exact lv_ifnonnull hx hb d ht (k H locs lsA hH hS hl)
theorem r_nonnullN (F : ja_F C own cc nl rm) {off : Int} (d : decode cc pc = .ok (.ifnonnull off, 3)) {pc' : Nat} (hpc : pc + 3 = pc') (k : ja_W C cells slots lay mem n pc' ls st) : ja_W C cells slots lay mem n pc ls (.null :: st) := by
  subst hpc
  obtain ⟨p, l, e, R, s, m, args, below, meth, c, D, cA, B, nL, Q⟩ := C
  obtain ⟨hnl, hrm, hx, hb, hml, hown, hts, ⟨hK, hAO, hNw⟩, hlk, hB⟩ := F
  subst hnl; subst hrm
  intro H locs lsA hH hS hl
  exact lv_ifnonnullN hx hb d (k H locs lsA hH hS hl)
theorem r_tableIn (F : ja_F C own cc nl rm) {dflt lo hi : Int} {offs : Array Int} {len : Nat} {z off : Int} {tgt : Nat} (hz : ja_in z) (d : decode cc pc = .ok (.tableswitch dflt lo hi offs, len)) (h1 : lo ≤ z) (h2 : z ≤ hi) (ho : offs[(z - lo).toNat]? = some off) (ht : (pc : Int) + off = (tgt : Int)) (k : ja_W C cells slots lay mem n tgt ls st) : ja_W C cells slots lay mem n pc ls (.int (ja_I z) :: st) := by
  obtain ⟨p, l, e, R, s, m, args, below, meth, c, D, cA, B, nL, Q⟩ := C
  obtain ⟨hnl, hrm, hx, hb, hml, hown, hts, ⟨hK, hAO, hNw⟩, hlk, hB⟩ := F
  subst hnl; subst hrm
  intro H locs lsA hH hS hl
  exact lv_tableIn hx hb d (by rw [ja_toInt hz]; omega) (by rw [ja_toInt hz]; omega) (by rw [ja_toInt hz]; exact ho) ht (k H locs lsA hH hS hl)
theorem r_tableOut (F : ja_F C own cc nl rm) {dflt lo hi : Int} {offs : Array Int} {len : Nat} {z : Int} {tgt : Nat} (hz : ja_in z) (d : decode cc pc = .ok (.tableswitch dflt lo hi offs, len)) (h1 : z < lo ∨ hi < z) (ht : (pc : Int) + dflt = (tgt : Int)) (k : ja_W C cells slots lay mem n tgt ls st) : ja_W C cells slots lay mem n pc ls (.int (ja_I z) :: st) := by
  obtain ⟨p, l, e, R, s, m, args, below, meth, c, D, cA, B, nL, Q⟩ := C
  obtain ⟨hnl, hrm, hx, hb, hml, hown, hts, ⟨hK, hAO, hNw⟩, hlk, hB⟩ := F
  subst hnl; subst hrm
  intro H locs lsA hH hS hl
  exact lv_tableOut hx hb d (by rw [ja_toInt hz]; exact h1) ht (k H locs lsA hH hS hl)
theorem r_lookup (F : ja_F C own cc nl rm) {dflt : Int} {ps : Array (Int × Int)} {len : Nat} {z off : Int} {tgt : Nat} (hz : ja_in z) (d : decode cc pc = .ok (.lookupswitch dflt ps, len)) (hp : (ps.toList.zip (ps.toList.drop 1)).all (fun (a, next) => a.1 < next.1) = true) (ho : Op.lookupswitch.offset ps.toList dflt z = off) (ht : (pc : Int) + off = (tgt : Int)) (k : ja_W C cells slots lay mem n tgt ls st) : ja_W C cells slots lay mem n pc ls (.int (ja_I z) :: st) := by
  obtain ⟨p, l, e, R, s, m, args, below, meth, c, D, cA, B, nL, Q⟩ := C
  obtain ⟨hnl, hrm, hx, hb, hml, hown, hts, ⟨hK, hAO, hNw⟩, hlk, hB⟩ := F
  subst hnl; subst hrm
  intro H locs lsA hH hS hl
  exact lv_lookup hx hb d hp (by rw [ja_toInt hz]; exact ho) ht (k H locs lsA hH hS hl)
end
section
variable {C : ja_C} {own : String} {cc : ByteArray} {nl : Nat} {rm : Room} {cells slots n : Nat} {lay : ja_Y} {mem : ja_M} {pc : Nat} {st : List Value}
theorem r_ist0 (F : ja_F C own cc nl rm) {x0 : Option Value} {r : List (Option Value)} {x : Int32} (hn : 0 < nl) (hp : ja_pre (x0 :: r) 0 = true) (d : decode cc pc = .ok (.istore_n 0, 1)) {pc' : Nat} (hpc : pc + 1 = pc') (k : ja_W C cells slots lay mem n pc' (some (.int x) :: r) st) : ja_W C cells slots lay mem n pc (x0 :: r) (.int x :: st) := r_istore_n F rfl hn hp rfl d hpc k
theorem r_ast0 (F : ja_F C own cc nl rm) {x0 : Option Value} {r : List (Option Value)} {x : Nat} (hn : 0 < nl) (hp : ja_pre (x0 :: r) 0 = true) (d : decode cc pc = .ok (.astore_n 0, 1)) {pc' : Nat} (hpc : pc + 1 = pc') (k : ja_W C cells slots lay mem n pc' (some (.ref x) :: r) st) : ja_W C cells slots lay mem n pc (x0 :: r) (.ref x :: st) := r_astore_n F rfl hn hp rfl d hpc k
theorem r_inc0 (F : ja_F C own cc nl rm)  {r : List (Option Value)} {x dz : Int} (hn : 0 < nl) (hp : ja_pre (some (.int (ja_I x)) :: r) 0 = true) (d : decode cc pc = .ok (.iinc 0 dz, 3)) {pc' : Nat} (hpc : pc + 3 = pc') (k : ja_W C cells slots lay mem n pc' (some (.int (ja_I (x + dz))) :: r) st) : ja_W C cells slots lay mem n pc (some (.int (ja_I x)) :: r) st := r_iinc F (i := 0) rfl hn hp rfl d hpc k
theorem r_lst0 (F : ja_F C own cc nl rm) {x0 x1 : Option Value} {r : List (Option Value)} {x : Int64} (hn : 0 + 1 < nl) (hp : ja_pre (x0 :: x1 :: r) 0 = true) (d : decode cc pc = .ok (.lstore_n 0, 1)) {pc' : Nat} (hpc : pc + 1 = pc') (k : ja_W C cells slots lay mem n pc' (some (.long x) :: none :: r) st) : ja_W C cells slots lay mem n pc (x0 :: x1 :: r) (.long x :: st) := r_lstore_n F rfl hn hp rfl d hpc k
theorem r_ist1 (F : ja_F C own cc nl rm) {x0 x1 : Option Value} {r : List (Option Value)} {x : Int32} (hn : 1 < nl) (hp : ja_pre (x0 :: x1 :: r) 1 = true) (d : decode cc pc = .ok (.istore_n 1, 1)) {pc' : Nat} (hpc : pc + 1 = pc') (k : ja_W C cells slots lay mem n pc' (x0 :: some (.int x) :: r) st) : ja_W C cells slots lay mem n pc (x0 :: x1 :: r) (.int x :: st) := r_istore_n F rfl hn hp rfl d hpc k
theorem r_ast1 (F : ja_F C own cc nl rm) {x0 x1 : Option Value} {r : List (Option Value)} {x : Nat} (hn : 1 < nl) (hp : ja_pre (x0 :: x1 :: r) 1 = true) (d : decode cc pc = .ok (.astore_n 1, 1)) {pc' : Nat} (hpc : pc + 1 = pc') (k : ja_W C cells slots lay mem n pc' (x0 :: some (.ref x) :: r) st) : ja_W C cells slots lay mem n pc (x0 :: x1 :: r) (.ref x :: st) := r_astore_n F rfl hn hp rfl d hpc k
theorem r_inc1 (F : ja_F C own cc nl rm) {x0 : Option Value} {r : List (Option Value)} {x dz : Int} (hn : 1 < nl) (hp : ja_pre (x0 :: some (.int (ja_I x)) :: r) 1 = true) (d : decode cc pc = .ok (.iinc 1 dz, 3)) {pc' : Nat} (hpc : pc + 3 = pc') (k : ja_W C cells slots lay mem n pc' (x0 :: some (.int (ja_I (x + dz))) :: r) st) : ja_W C cells slots lay mem n pc (x0 :: some (.int (ja_I x)) :: r) st := r_iinc F (i := 1) rfl hn hp rfl d hpc k
theorem r_lst1 (F : ja_F C own cc nl rm) {x0 x1 x2 : Option Value} {r : List (Option Value)} {x : Int64} (hn : 1 + 1 < nl) (hp : ja_pre (x0 :: x1 :: x2 :: r) 1 = true) (d : decode cc pc = .ok (.lstore_n 1, 1)) {pc' : Nat} (hpc : pc + 1 = pc') (k : ja_W C cells slots lay mem n pc' (x0 :: some (.long x) :: none :: r) st) : ja_W C cells slots lay mem n pc (x0 :: x1 :: x2 :: r) (.long x :: st) := r_lstore_n F rfl hn hp rfl d hpc k
theorem r_ist2 (F : ja_F C own cc nl rm) {x0 x1 x2 : Option Value} {r : List (Option Value)} {x : Int32} (hn : 2 < nl) (hp : ja_pre (x0 :: x1 :: x2 :: r) 2 = true) (d : decode cc pc = .ok (.istore_n 2, 1)) {pc' : Nat} (hpc : pc + 1 = pc') (k : ja_W C cells slots lay mem n pc' (x0 :: x1 :: some (.int x) :: r) st) : ja_W C cells slots lay mem n pc (x0 :: x1 :: x2 :: r) (.int x :: st) := r_istore_n F rfl hn hp rfl d hpc k
theorem r_ast2 (F : ja_F C own cc nl rm) {x0 x1 x2 : Option Value} {r : List (Option Value)} {x : Nat} (hn : 2 < nl) (hp : ja_pre (x0 :: x1 :: x2 :: r) 2 = true) (d : decode cc pc = .ok (.astore_n 2, 1)) {pc' : Nat} (hpc : pc + 1 = pc') (k : ja_W C cells slots lay mem n pc' (x0 :: x1 :: some (.ref x) :: r) st) : ja_W C cells slots lay mem n pc (x0 :: x1 :: x2 :: r) (.ref x :: st) := r_astore_n F rfl hn hp rfl d hpc k
theorem r_inc2 (F : ja_F C own cc nl rm) {x0 x1 : Option Value} {r : List (Option Value)} {x dz : Int} (hn : 2 < nl) (hp : ja_pre (x0 :: x1 :: some (.int (ja_I x)) :: r) 2 = true) (d : decode cc pc = .ok (.iinc 2 dz, 3)) {pc' : Nat} (hpc : pc + 3 = pc') (k : ja_W C cells slots lay mem n pc' (x0 :: x1 :: some (.int (ja_I (x + dz))) :: r) st) : ja_W C cells slots lay mem n pc (x0 :: x1 :: some (.int (ja_I x)) :: r) st := r_iinc F (i := 2) rfl hn hp rfl d hpc k
theorem r_lst2 (F : ja_F C own cc nl rm) {x0 x1 x2 x3 : Option Value} {r : List (Option Value)} {x : Int64} (hn : 2 + 1 < nl) (hp : ja_pre (x0 :: x1 :: x2 :: x3 :: r) 2 = true) (d : decode cc pc = .ok (.lstore_n 2, 1)) {pc' : Nat} (hpc : pc + 1 = pc') (k : ja_W C cells slots lay mem n pc' (x0 :: x1 :: some (.long x) :: none :: r) st) : ja_W C cells slots lay mem n pc (x0 :: x1 :: x2 :: x3 :: r) (.long x :: st) := r_lstore_n F rfl hn hp rfl d hpc k
theorem r_ist3 (F : ja_F C own cc nl rm) {x0 x1 x2 x3 : Option Value} {r : List (Option Value)} {x : Int32} (hn : 3 < nl) (hp : ja_pre (x0 :: x1 :: x2 :: x3 :: r) 3 = true) (d : decode cc pc = .ok (.istore_n 3, 1)) {pc' : Nat} (hpc : pc + 1 = pc') (k : ja_W C cells slots lay mem n pc' (x0 :: x1 :: x2 :: some (.int x) :: r) st) : ja_W C cells slots lay mem n pc (x0 :: x1 :: x2 :: x3 :: r) (.int x :: st) := r_istore_n F rfl hn hp rfl d hpc k
theorem r_ast3 (F : ja_F C own cc nl rm) {x0 x1 x2 x3 : Option Value} {r : List (Option Value)} {x : Nat} (hn : 3 < nl) (hp : ja_pre (x0 :: x1 :: x2 :: x3 :: r) 3 = true) (d : decode cc pc = .ok (.astore_n 3, 1)) {pc' : Nat} (hpc : pc + 1 = pc') (k : ja_W C cells slots lay mem n pc' (x0 :: x1 :: x2 :: some (.ref x) :: r) st) : ja_W C cells slots lay mem n pc (x0 :: x1 :: x2 :: x3 :: r) (.ref x :: st) := r_astore_n F rfl hn hp rfl d hpc k
theorem r_inc3 (F : ja_F C own cc nl rm) {x0 x1 x2 : Option Value} {r : List (Option Value)} {x dz : Int} (hn : 3 < nl) (hp : ja_pre (x0 :: x1 :: x2 :: some (.int (ja_I x)) :: r) 3 = true) (d : decode cc pc = .ok (.iinc 3 dz, 3)) {pc' : Nat} (hpc : pc + 3 = pc') (k : ja_W C cells slots lay mem n pc' (x0 :: x1 :: x2 :: some (.int (ja_I (x + dz))) :: r) st) : ja_W C cells slots lay mem n pc (x0 :: x1 :: x2 :: some (.int (ja_I x)) :: r) st := r_iinc F (i := 3) rfl hn hp rfl d hpc k
theorem r_lst3 (F : ja_F C own cc nl rm) {x0 x1 x2 x3 x4 : Option Value} {r : List (Option Value)} {x : Int64} (hn : 3 + 1 < nl) (hp : ja_pre (x0 :: x1 :: x2 :: x3 :: x4 :: r) 3 = true) (d : decode cc pc = .ok (.lstore_n 3, 1)) {pc' : Nat} (hpc : pc + 1 = pc') (k : ja_W C cells slots lay mem n pc' (x0 :: x1 :: x2 :: some (.long x) :: none :: r) st) : ja_W C cells slots lay mem n pc (x0 :: x1 :: x2 :: x3 :: x4 :: r) (.long x :: st) := r_lstore_n F rfl hn hp rfl d hpc k
theorem r_ist4 (F : ja_F C own cc nl rm) {x0 x1 x2 x3 x4 : Option Value} {r : List (Option Value)} {x : Int32} (hn : 4 < nl) (hp : ja_pre (x0 :: x1 :: x2 :: x3 :: x4 :: r) 4 = true) (d : decode cc pc = .ok (.istore 4, 2)) {pc' : Nat} (hpc : pc + 2 = pc') (k : ja_W C cells slots lay mem n pc' (x0 :: x1 :: x2 :: x3 :: some (.int x) :: r) st) : ja_W C cells slots lay mem n pc (x0 :: x1 :: x2 :: x3 :: x4 :: r) (.int x :: st) := r_istore F hn hp rfl d hpc k
theorem r_ast4 (F : ja_F C own cc nl rm) {x0 x1 x2 x3 x4 : Option Value} {r : List (Option Value)} {x : Nat} (hn : 4 < nl) (hp : ja_pre (x0 :: x1 :: x2 :: x3 :: x4 :: r) 4 = true) (d : decode cc pc = .ok (.astore 4, 2)) {pc' : Nat} (hpc : pc + 2 = pc') (k : ja_W C cells slots lay mem n pc' (x0 :: x1 :: x2 :: x3 :: some (.ref x) :: r) st) : ja_W C cells slots lay mem n pc (x0 :: x1 :: x2 :: x3 :: x4 :: r) (.ref x :: st) := r_astore F hn hp rfl d hpc k
theorem r_inc4 (F : ja_F C own cc nl rm) {x0 x1 x2 x3 : Option Value} {r : List (Option Value)} {x dz : Int} (hn : 4 < nl) (hp : ja_pre (x0 :: x1 :: x2 :: x3 :: some (.int (ja_I x)) :: r) 4 = true) (d : decode cc pc = .ok (.iinc 4 dz, 3)) {pc' : Nat} (hpc : pc + 3 = pc') (k : ja_W C cells slots lay mem n pc' (x0 :: x1 :: x2 :: x3 :: some (.int (ja_I (x + dz))) :: r) st) : ja_W C cells slots lay mem n pc (x0 :: x1 :: x2 :: x3 :: some (.int (ja_I x)) :: r) st := r_iinc F (i := 4) rfl hn hp rfl d hpc k
theorem r_lst4 (F : ja_F C own cc nl rm) {x0 x1 x2 x3 x4 x5 : Option Value} {r : List (Option Value)} {x : Int64} (hn : 4 + 1 < nl) (hp : ja_pre (x0 :: x1 :: x2 :: x3 :: x4 :: x5 :: r) 4 = true) (d : decode cc pc = .ok (.lstore 4, 2)) {pc' : Nat} (hpc : pc + 2 = pc') (k : ja_W C cells slots lay mem n pc' (x0 :: x1 :: x2 :: x3 :: some (.long x) :: none :: r) st) : ja_W C cells slots lay mem n pc (x0 :: x1 :: x2 :: x3 :: x4 :: x5 :: r) (.long x :: st) := r_lstore F hn hp rfl d hpc k
theorem r_ist5 (F : ja_F C own cc nl rm) {x0 x1 x2 x3 x4 x5 : Option Value} {r : List (Option Value)} {x : Int32} (hn : 5 < nl) (hp : ja_pre (x0 :: x1 :: x2 :: x3 :: x4 :: x5 :: r) 5 = true) (d : decode cc pc = .ok (.istore 5, 2)) {pc' : Nat} (hpc : pc + 2 = pc') (k : ja_W C cells slots lay mem n pc' (x0 :: x1 :: x2 :: x3 :: x4 :: some (.int x) :: r) st) : ja_W C cells slots lay mem n pc (x0 :: x1 :: x2 :: x3 :: x4 :: x5 :: r) (.int x :: st) := r_istore F hn hp rfl d hpc k
theorem r_ast5 (F : ja_F C own cc nl rm) {x0 x1 x2 x3 x4 x5 : Option Value} {r : List (Option Value)} {x : Nat} (hn : 5 < nl) (hp : ja_pre (x0 :: x1 :: x2 :: x3 :: x4 :: x5 :: r) 5 = true) (d : decode cc pc = .ok (.astore 5, 2)) {pc' : Nat} (hpc : pc + 2 = pc') (k : ja_W C cells slots lay mem n pc' (x0 :: x1 :: x2 :: x3 :: x4 :: some (.ref x) :: r) st) : ja_W C cells slots lay mem n pc (x0 :: x1 :: x2 :: x3 :: x4 :: x5 :: r) (.ref x :: st) := r_astore F hn hp rfl d hpc k
theorem r_inc5 (F : ja_F C own cc nl rm) {x0 x1 x2 x3 x4 : Option Value} {r : List (Option Value)} {x dz : Int} (hn : 5 < nl) (hp : ja_pre (x0 :: x1 :: x2 :: x3 :: x4 :: some (.int (ja_I x)) :: r) 5 = true) (d : decode cc pc = .ok (.iinc 5 dz, 3)) {pc' : Nat} (hpc : pc + 3 = pc') (k : ja_W C cells slots lay mem n pc' (x0 :: x1 :: x2 :: x3 :: x4 :: some (.int (ja_I (x + dz))) :: r) st) : ja_W C cells slots lay mem n pc (x0 :: x1 :: x2 :: x3 :: x4 :: some (.int (ja_I x)) :: r) st := r_iinc F (i := 5) rfl hn hp rfl d hpc k
theorem r_lst5 (F : ja_F C own cc nl rm) {x0 x1 x2 x3 x4 x5 x6 : Option Value} {r : List (Option Value)} {x : Int64} (hn : 5 + 1 < nl) (hp : ja_pre (x0 :: x1 :: x2 :: x3 :: x4 :: x5 :: x6 :: r) 5 = true) (d : decode cc pc = .ok (.lstore 5, 2)) {pc' : Nat} (hpc : pc + 2 = pc') (k : ja_W C cells slots lay mem n pc' (x0 :: x1 :: x2 :: x3 :: x4 :: some (.long x) :: none :: r) st) : ja_W C cells slots lay mem n pc (x0 :: x1 :: x2 :: x3 :: x4 :: x5 :: x6 :: r) (.long x :: st) := r_lstore F hn hp rfl d hpc k
theorem r_ist6 (F : ja_F C own cc nl rm) {x0 x1 x2 x3 x4 x5 x6 : Option Value} {r : List (Option Value)} {x : Int32} (hn : 6 < nl) (hp : ja_pre (x0 :: x1 :: x2 :: x3 :: x4 :: x5 :: x6 :: r) 6 = true) (d : decode cc pc = .ok (.istore 6, 2)) {pc' : Nat} (hpc : pc + 2 = pc') (k : ja_W C cells slots lay mem n pc' (x0 :: x1 :: x2 :: x3 :: x4 :: x5 :: some (.int x) :: r) st) : ja_W C cells slots lay mem n pc (x0 :: x1 :: x2 :: x3 :: x4 :: x5 :: x6 :: r) (.int x :: st) := r_istore F hn hp rfl d hpc k
theorem r_ast6 (F : ja_F C own cc nl rm) {x0 x1 x2 x3 x4 x5 x6 : Option Value} {r : List (Option Value)} {x : Nat} (hn : 6 < nl) (hp : ja_pre (x0 :: x1 :: x2 :: x3 :: x4 :: x5 :: x6 :: r) 6 = true) (d : decode cc pc = .ok (.astore 6, 2)) {pc' : Nat} (hpc : pc + 2 = pc') (k : ja_W C cells slots lay mem n pc' (x0 :: x1 :: x2 :: x3 :: x4 :: x5 :: some (.ref x) :: r) st) : ja_W C cells slots lay mem n pc (x0 :: x1 :: x2 :: x3 :: x4 :: x5 :: x6 :: r) (.ref x :: st) := r_astore F hn hp rfl d hpc k
theorem r_inc6 (F : ja_F C own cc nl rm) {x0 x1 x2 x3 x4 x5 : Option Value} {r : List (Option Value)} {x dz : Int} (hn : 6 < nl) (hp : ja_pre (x0 :: x1 :: x2 :: x3 :: x4 :: x5 :: some (.int (ja_I x)) :: r) 6 = true) (d : decode cc pc = .ok (.iinc 6 dz, 3)) {pc' : Nat} (hpc : pc + 3 = pc') (k : ja_W C cells slots lay mem n pc' (x0 :: x1 :: x2 :: x3 :: x4 :: x5 :: some (.int (ja_I (x + dz))) :: r) st) : ja_W C cells slots lay mem n pc (x0 :: x1 :: x2 :: x3 :: x4 :: x5 :: some (.int (ja_I x)) :: r) st := r_iinc F (i := 6) rfl hn hp rfl d hpc k
theorem r_lst6 (F : ja_F C own cc nl rm) {x0 x1 x2 x3 x4 x5 x6 x7 : Option Value} {r : List (Option Value)} {x : Int64} (hn : 6 + 1 < nl) (hp : ja_pre (x0 :: x1 :: x2 :: x3 :: x4 :: x5 :: x6 :: x7 :: r) 6 = true) (d : decode cc pc = .ok (.lstore 6, 2)) {pc' : Nat} (hpc : pc + 2 = pc') (k : ja_W C cells slots lay mem n pc' (x0 :: x1 :: x2 :: x3 :: x4 :: x5 :: some (.long x) :: none :: r) st) : ja_W C cells slots lay mem n pc (x0 :: x1 :: x2 :: x3 :: x4 :: x5 :: x6 :: x7 :: r) (.long x :: st) := r_lstore F hn hp rfl d hpc k
theorem r_ist7 (F : ja_F C own cc nl rm) {x0 x1 x2 x3 x4 x5 x6 x7 : Option Value} {r : List (Option Value)} {x : Int32} (hn : 7 < nl) (hp : ja_pre (x0 :: x1 :: x2 :: x3 :: x4 :: x5 :: x6 :: x7 :: r) 7 = true) (d : decode cc pc = .ok (.istore 7, 2)) {pc' : Nat} (hpc : pc + 2 = pc') (k : ja_W C cells slots lay mem n pc' (x0 :: x1 :: x2 :: x3 :: x4 :: x5 :: x6 :: some (.int x) :: r) st) : ja_W C cells slots lay mem n pc (x0 :: x1 :: x2 :: x3 :: x4 :: x5 :: x6 :: x7 :: r) (.int x :: st) := r_istore F hn hp rfl d hpc k
theorem r_ast7 (F : ja_F C own cc nl rm) {x0 x1 x2 x3 x4 x5 x6 x7 : Option Value} {r : List (Option Value)} {x : Nat} (hn : 7 < nl) (hp : ja_pre (x0 :: x1 :: x2 :: x3 :: x4 :: x5 :: x6 :: x7 :: r) 7 = true) (d : decode cc pc = .ok (.astore 7, 2)) {pc' : Nat} (hpc : pc + 2 = pc') (k : ja_W C cells slots lay mem n pc' (x0 :: x1 :: x2 :: x3 :: x4 :: x5 :: x6 :: some (.ref x) :: r) st) : ja_W C cells slots lay mem n pc (x0 :: x1 :: x2 :: x3 :: x4 :: x5 :: x6 :: x7 :: r) (.ref x :: st) := r_astore F hn hp rfl d hpc k
theorem r_inc7 (F : ja_F C own cc nl rm) {x0 x1 x2 x3 x4 x5 x6 : Option Value} {r : List (Option Value)} {x dz : Int} (hn : 7 < nl) (hp : ja_pre (x0 :: x1 :: x2 :: x3 :: x4 :: x5 :: x6 :: some (.int (ja_I x)) :: r) 7 = true) (d : decode cc pc = .ok (.iinc 7 dz, 3)) {pc' : Nat} (hpc : pc + 3 = pc') (k : ja_W C cells slots lay mem n pc' (x0 :: x1 :: x2 :: x3 :: x4 :: x5 :: x6 :: some (.int (ja_I (x + dz))) :: r) st) : ja_W C cells slots lay mem n pc (x0 :: x1 :: x2 :: x3 :: x4 :: x5 :: x6 :: some (.int (ja_I x)) :: r) st := r_iinc F (i := 7) rfl hn hp rfl d hpc k
theorem r_lst7 (F : ja_F C own cc nl rm) {x0 x1 x2 x3 x4 x5 x6 x7 x8 : Option Value} {r : List (Option Value)} {x : Int64} (hn : 7 + 1 < nl) (hp : ja_pre (x0 :: x1 :: x2 :: x3 :: x4 :: x5 :: x6 :: x7 :: x8 :: r) 7 = true) (d : decode cc pc = .ok (.lstore 7, 2)) {pc' : Nat} (hpc : pc + 2 = pc') (k : ja_W C cells slots lay mem n pc' (x0 :: x1 :: x2 :: x3 :: x4 :: x5 :: x6 :: some (.long x) :: none :: r) st) : ja_W C cells slots lay mem n pc (x0 :: x1 :: x2 :: x3 :: x4 :: x5 :: x6 :: x7 :: x8 :: r) (.long x :: st) := r_lstore F hn hp rfl d hpc k
theorem r_ist8 (F : ja_F C own cc nl rm) {x0 x1 x2 x3 x4 x5 x6 x7 x8 : Option Value} {r : List (Option Value)} {x : Int32} (hn : 8 < nl) (hp : ja_pre (x0 :: x1 :: x2 :: x3 :: x4 :: x5 :: x6 :: x7 :: x8 :: r) 8 = true) (d : decode cc pc = .ok (.istore 8, 2)) {pc' : Nat} (hpc : pc + 2 = pc') (k : ja_W C cells slots lay mem n pc' (x0 :: x1 :: x2 :: x3 :: x4 :: x5 :: x6 :: x7 :: some (.int x) :: r) st) : ja_W C cells slots lay mem n pc (x0 :: x1 :: x2 :: x3 :: x4 :: x5 :: x6 :: x7 :: x8 :: r) (.int x :: st) := r_istore F hn hp rfl d hpc k
theorem r_ast8 (F : ja_F C own cc nl rm) {x0 x1 x2 x3 x4 x5 x6 x7 x8 : Option Value} {r : List (Option Value)} {x : Nat} (hn : 8 < nl) (hp : ja_pre (x0 :: x1 :: x2 :: x3 :: x4 :: x5 :: x6 :: x7 :: x8 :: r) 8 = true) (d : decode cc pc = .ok (.astore 8, 2)) {pc' : Nat} (hpc : pc + 2 = pc') (k : ja_W C cells slots lay mem n pc' (x0 :: x1 :: x2 :: x3 :: x4 :: x5 :: x6 :: x7 :: some (.ref x) :: r) st) : ja_W C cells slots lay mem n pc (x0 :: x1 :: x2 :: x3 :: x4 :: x5 :: x6 :: x7 :: x8 :: r) (.ref x :: st) := r_astore F hn hp rfl d hpc k
theorem r_inc8 (F : ja_F C own cc nl rm) {x0 x1 x2 x3 x4 x5 x6 x7 : Option Value} {r : List (Option Value)} {x dz : Int} (hn : 8 < nl) (hp : ja_pre (x0 :: x1 :: x2 :: x3 :: x4 :: x5 :: x6 :: x7 :: some (.int (ja_I x)) :: r) 8 = true) (d : decode cc pc = .ok (.iinc 8 dz, 3)) {pc' : Nat} (hpc : pc + 3 = pc') (k : ja_W C cells slots lay mem n pc' (x0 :: x1 :: x2 :: x3 :: x4 :: x5 :: x6 :: x7 :: some (.int (ja_I (x + dz))) :: r) st) : ja_W C cells slots lay mem n pc (x0 :: x1 :: x2 :: x3 :: x4 :: x5 :: x6 :: x7 :: some (.int (ja_I x)) :: r) st := r_iinc F (i := 8) rfl hn hp rfl d hpc k
theorem r_lst8 (F : ja_F C own cc nl rm) {x0 x1 x2 x3 x4 x5 x6 x7 x8 x9 : Option Value} {r : List (Option Value)} {x : Int64} (hn : 8 + 1 < nl) (hp : ja_pre (x0 :: x1 :: x2 :: x3 :: x4 :: x5 :: x6 :: x7 :: x8 :: x9 :: r) 8 = true) (d : decode cc pc = .ok (.lstore 8, 2)) {pc' : Nat} (hpc : pc + 2 = pc') (k : ja_W C cells slots lay mem n pc' (x0 :: x1 :: x2 :: x3 :: x4 :: x5 :: x6 :: x7 :: some (.long x) :: none :: r) st) : ja_W C cells slots lay mem n pc (x0 :: x1 :: x2 :: x3 :: x4 :: x5 :: x6 :: x7 :: x8 :: x9 :: r) (.long x :: st) := r_lstore F hn hp rfl d hpc k
theorem r_ist9 (F : ja_F C own cc nl rm) {x0 x1 x2 x3 x4 x5 x6 x7 x8 x9 : Option Value} {r : List (Option Value)} {x : Int32} (hn : 9 < nl) (hp : ja_pre (x0 :: x1 :: x2 :: x3 :: x4 :: x5 :: x6 :: x7 :: x8 :: x9 :: r) 9 = true) (d : decode cc pc = .ok (.istore 9, 2)) {pc' : Nat} (hpc : pc + 2 = pc') (k : ja_W C cells slots lay mem n pc' (x0 :: x1 :: x2 :: x3 :: x4 :: x5 :: x6 :: x7 :: x8 :: some (.int x) :: r) st) : ja_W C cells slots lay mem n pc (x0 :: x1 :: x2 :: x3 :: x4 :: x5 :: x6 :: x7 :: x8 :: x9 :: r) (.int x :: st) := r_istore F hn hp rfl d hpc k
theorem r_ast9 (F : ja_F C own cc nl rm) {x0 x1 x2 x3 x4 x5 x6 x7 x8 x9 : Option Value} {r : List (Option Value)} {x : Nat} (hn : 9 < nl) (hp : ja_pre (x0 :: x1 :: x2 :: x3 :: x4 :: x5 :: x6 :: x7 :: x8 :: x9 :: r) 9 = true) (d : decode cc pc = .ok (.astore 9, 2)) {pc' : Nat} (hpc : pc + 2 = pc') (k : ja_W C cells slots lay mem n pc' (x0 :: x1 :: x2 :: x3 :: x4 :: x5 :: x6 :: x7 :: x8 :: some (.ref x) :: r) st) : ja_W C cells slots lay mem n pc (x0 :: x1 :: x2 :: x3 :: x4 :: x5 :: x6 :: x7 :: x8 :: x9 :: r) (.ref x :: st) := r_astore F hn hp rfl d hpc k
theorem r_inc9 (F : ja_F C own cc nl rm) {x0 x1 x2 x3 x4 x5 x6 x7 x8 : Option Value} {r : List (Option Value)} {x dz : Int} (hn : 9 < nl) (hp : ja_pre (x0 :: x1 :: x2 :: x3 :: x4 :: x5 :: x6 :: x7 :: x8 :: some (.int (ja_I x)) :: r) 9 = true) (d : decode cc pc = .ok (.iinc 9 dz, 3)) {pc' : Nat} (hpc : pc + 3 = pc') (k : ja_W C cells slots lay mem n pc' (x0 :: x1 :: x2 :: x3 :: x4 :: x5 :: x6 :: x7 :: x8 :: some (.int (ja_I (x + dz))) :: r) st) : ja_W C cells slots lay mem n pc (x0 :: x1 :: x2 :: x3 :: x4 :: x5 :: x6 :: x7 :: x8 :: some (.int (ja_I x)) :: r) st := r_iinc F (i := 9) rfl hn hp rfl d hpc k
theorem r_lst9 (F : ja_F C own cc nl rm) {x0 x1 x2 x3 x4 x5 x6 x7 x8 x9 x10 : Option Value} {r : List (Option Value)} {x : Int64} (hn : 9 + 1 < nl) (hp : ja_pre (x0 :: x1 :: x2 :: x3 :: x4 :: x5 :: x6 :: x7 :: x8 :: x9 :: x10 :: r) 9 = true) (d : decode cc pc = .ok (.lstore 9, 2)) {pc' : Nat} (hpc : pc + 2 = pc') (k : ja_W C cells slots lay mem n pc' (x0 :: x1 :: x2 :: x3 :: x4 :: x5 :: x6 :: x7 :: x8 :: some (.long x) :: none :: r) st) : ja_W C cells slots lay mem n pc (x0 :: x1 :: x2 :: x3 :: x4 :: x5 :: x6 :: x7 :: x8 :: x9 :: x10 :: r) (.long x :: st) := r_lstore F hn hp rfl d hpc k
theorem r_ist10 (F : ja_F C own cc nl rm) {x0 x1 x2 x3 x4 x5 x6 x7 x8 x9 x10 : Option Value} {r : List (Option Value)} {x : Int32} (hn : 10 < nl) (hp : ja_pre (x0 :: x1 :: x2 :: x3 :: x4 :: x5 :: x6 :: x7 :: x8 :: x9 :: x10 :: r) 10 = true) (d : decode cc pc = .ok (.istore 10, 2)) {pc' : Nat} (hpc : pc + 2 = pc') (k : ja_W C cells slots lay mem n pc' (x0 :: x1 :: x2 :: x3 :: x4 :: x5 :: x6 :: x7 :: x8 :: x9 :: some (.int x) :: r) st) : ja_W C cells slots lay mem n pc (x0 :: x1 :: x2 :: x3 :: x4 :: x5 :: x6 :: x7 :: x8 :: x9 :: x10 :: r) (.int x :: st) := r_istore F hn hp rfl d hpc k
theorem r_ast10 (F : ja_F C own cc nl rm) {x0 x1 x2 x3 x4 x5 x6 x7 x8 x9 x10 : Option Value} {r : List (Option Value)} {x : Nat} (hn : 10 < nl) (hp : ja_pre (x0 :: x1 :: x2 :: x3 :: x4 :: x5 :: x6 :: x7 :: x8 :: x9 :: x10 :: r) 10 = true) (d : decode cc pc = .ok (.astore 10, 2)) {pc' : Nat} (hpc : pc + 2 = pc') (k : ja_W C cells slots lay mem n pc' (x0 :: x1 :: x2 :: x3 :: x4 :: x5 :: x6 :: x7 :: x8 :: x9 :: some (.ref x) :: r) st) : ja_W C cells slots lay mem n pc (x0 :: x1 :: x2 :: x3 :: x4 :: x5 :: x6 :: x7 :: x8 :: x9 :: x10 :: r) (.ref x :: st) := r_astore F hn hp rfl d hpc k
theorem r_inc10 (F : ja_F C own cc nl rm) {x0 x1 x2 x3 x4 x5 x6 x7 x8 x9 : Option Value} {r : List (Option Value)} {x dz : Int} (hn : 10 < nl) (hp : ja_pre (x0 :: x1 :: x2 :: x3 :: x4 :: x5 :: x6 :: x7 :: x8 :: x9 :: some (.int (ja_I x)) :: r) 10 = true) (d : decode cc pc = .ok (.iinc 10 dz, 3)) {pc' : Nat} (hpc : pc + 3 = pc') (k : ja_W C cells slots lay mem n pc' (x0 :: x1 :: x2 :: x3 :: x4 :: x5 :: x6 :: x7 :: x8 :: x9 :: some (.int (ja_I (x + dz))) :: r) st) : ja_W C cells slots lay mem n pc (x0 :: x1 :: x2 :: x3 :: x4 :: x5 :: x6 :: x7 :: x8 :: x9 :: some (.int (ja_I x)) :: r) st := r_iinc F (i := 10) rfl hn hp rfl d hpc k
theorem r_lst10 (F : ja_F C own cc nl rm) {x0 x1 x2 x3 x4 x5 x6 x7 x8 x9 x10 x11 : Option Value} {r : List (Option Value)} {x : Int64} (hn : 10 + 1 < nl) (hp : ja_pre (x0 :: x1 :: x2 :: x3 :: x4 :: x5 :: x6 :: x7 :: x8 :: x9 :: x10 :: x11 :: r) 10 = true) (d : decode cc pc = .ok (.lstore 10, 2)) {pc' : Nat} (hpc : pc + 2 = pc') (k : ja_W C cells slots lay mem n pc' (x0 :: x1 :: x2 :: x3 :: x4 :: x5 :: x6 :: x7 :: x8 :: x9 :: some (.long x) :: none :: r) st) : ja_W C cells slots lay mem n pc (x0 :: x1 :: x2 :: x3 :: x4 :: x5 :: x6 :: x7 :: x8 :: x9 :: x10 :: x11 :: r) (.long x :: st) := r_lstore F hn hp rfl d hpc k
theorem r_ist11 (F : ja_F C own cc nl rm) {x0 x1 x2 x3 x4 x5 x6 x7 x8 x9 x10 x11 : Option Value} {r : List (Option Value)} {x : Int32} (hn : 11 < nl) (hp : ja_pre (x0 :: x1 :: x2 :: x3 :: x4 :: x5 :: x6 :: x7 :: x8 :: x9 :: x10 :: x11 :: r) 11 = true) (d : decode cc pc = .ok (.istore 11, 2)) {pc' : Nat} (hpc : pc + 2 = pc') (k : ja_W C cells slots lay mem n pc' (x0 :: x1 :: x2 :: x3 :: x4 :: x5 :: x6 :: x7 :: x8 :: x9 :: x10 :: some (.int x) :: r) st) : ja_W C cells slots lay mem n pc (x0 :: x1 :: x2 :: x3 :: x4 :: x5 :: x6 :: x7 :: x8 :: x9 :: x10 :: x11 :: r) (.int x :: st) := r_istore F hn hp rfl d hpc k
theorem r_ast11 (F : ja_F C own cc nl rm) {x0 x1 x2 x3 x4 x5 x6 x7 x8 x9 x10 x11 : Option Value} {r : List (Option Value)} {x : Nat} (hn : 11 < nl) (hp : ja_pre (x0 :: x1 :: x2 :: x3 :: x4 :: x5 :: x6 :: x7 :: x8 :: x9 :: x10 :: x11 :: r) 11 = true) (d : decode cc pc = .ok (.astore 11, 2)) {pc' : Nat} (hpc : pc + 2 = pc') (k : ja_W C cells slots lay mem n pc' (x0 :: x1 :: x2 :: x3 :: x4 :: x5 :: x6 :: x7 :: x8 :: x9 :: x10 :: some (.ref x) :: r) st) : ja_W C cells slots lay mem n pc (x0 :: x1 :: x2 :: x3 :: x4 :: x5 :: x6 :: x7 :: x8 :: x9 :: x10 :: x11 :: r) (.ref x :: st) := r_astore F hn hp rfl d hpc k
theorem r_inc11 (F : ja_F C own cc nl rm) {x0 x1 x2 x3 x4 x5 x6 x7 x8 x9 x10 : Option Value} {r : List (Option Value)} {x dz : Int} (hn : 11 < nl) (hp : ja_pre (x0 :: x1 :: x2 :: x3 :: x4 :: x5 :: x6 :: x7 :: x8 :: x9 :: x10 :: some (.int (ja_I x)) :: r) 11 = true) (d : decode cc pc = .ok (.iinc 11 dz, 3)) {pc' : Nat} (hpc : pc + 3 = pc') (k : ja_W C cells slots lay mem n pc' (x0 :: x1 :: x2 :: x3 :: x4 :: x5 :: x6 :: x7 :: x8 :: x9 :: x10 :: some (.int (ja_I (x + dz))) :: r) st) : ja_W C cells slots lay mem n pc (x0 :: x1 :: x2 :: x3 :: x4 :: x5 :: x6 :: x7 :: x8 :: x9 :: x10 :: some (.int (ja_I x)) :: r) st := r_iinc F (i := 11) rfl hn hp rfl d hpc k
theorem r_lst11 (F : ja_F C own cc nl rm) {x0 x1 x2 x3 x4 x5 x6 x7 x8 x9 x10 x11 x12 : Option Value} {r : List (Option Value)} {x : Int64} (hn : 11 + 1 < nl) (hp : ja_pre (x0 :: x1 :: x2 :: x3 :: x4 :: x5 :: x6 :: x7 :: x8 :: x9 :: x10 :: x11 :: x12 :: r) 11 = true) (d : decode cc pc = .ok (.lstore 11, 2)) {pc' : Nat} (hpc : pc + 2 = pc') (k : ja_W C cells slots lay mem n pc' (x0 :: x1 :: x2 :: x3 :: x4 :: x5 :: x6 :: x7 :: x8 :: x9 :: x10 :: some (.long x) :: none :: r) st) : ja_W C cells slots lay mem n pc (x0 :: x1 :: x2 :: x3 :: x4 :: x5 :: x6 :: x7 :: x8 :: x9 :: x10 :: x11 :: x12 :: r) (.long x :: st) := r_lstore F hn hp rfl d hpc k
theorem r_ist12 (F : ja_F C own cc nl rm) {x0 x1 x2 x3 x4 x5 x6 x7 x8 x9 x10 x11 x12 : Option Value} {r : List (Option Value)} {x : Int32} (hn : 12 < nl) (hp : ja_pre (x0 :: x1 :: x2 :: x3 :: x4 :: x5 :: x6 :: x7 :: x8 :: x9 :: x10 :: x11 :: x12 :: r) 12 = true) (d : decode cc pc = .ok (.istore 12, 2)) {pc' : Nat} (hpc : pc + 2 = pc') (k : ja_W C cells slots lay mem n pc' (x0 :: x1 :: x2 :: x3 :: x4 :: x5 :: x6 :: x7 :: x8 :: x9 :: x10 :: x11 :: some (.int x) :: r) st) : ja_W C cells slots lay mem n pc (x0 :: x1 :: x2 :: x3 :: x4 :: x5 :: x6 :: x7 :: x8 :: x9 :: x10 :: x11 :: x12 :: r) (.int x :: st) := r_istore F hn hp rfl d hpc k
theorem r_ast12 (F : ja_F C own cc nl rm) {x0 x1 x2 x3 x4 x5 x6 x7 x8 x9 x10 x11 x12 : Option Value} {r : List (Option Value)} {x : Nat} (hn : 12 < nl) (hp : ja_pre (x0 :: x1 :: x2 :: x3 :: x4 :: x5 :: x6 :: x7 :: x8 :: x9 :: x10 :: x11 :: x12 :: r) 12 = true) (d : decode cc pc = .ok (.astore 12, 2)) {pc' : Nat} (hpc : pc + 2 = pc') (k : ja_W C cells slots lay mem n pc' (x0 :: x1 :: x2 :: x3 :: x4 :: x5 :: x6 :: x7 :: x8 :: x9 :: x10 :: x11 :: some (.ref x) :: r) st) : ja_W C cells slots lay mem n pc (x0 :: x1 :: x2 :: x3 :: x4 :: x5 :: x6 :: x7 :: x8 :: x9 :: x10 :: x11 :: x12 :: r) (.ref x :: st) := r_astore F hn hp rfl d hpc k
theorem r_inc12 (F : ja_F C own cc nl rm) {x0 x1 x2 x3 x4 x5 x6 x7 x8 x9 x10 x11 : Option Value} {r : List (Option Value)} {x dz : Int} (hn : 12 < nl) (hp : ja_pre (x0 :: x1 :: x2 :: x3 :: x4 :: x5 :: x6 :: x7 :: x8 :: x9 :: x10 :: x11 :: some (.int (ja_I x)) :: r) 12 = true) (d : decode cc pc = .ok (.iinc 12 dz, 3)) {pc' : Nat} (hpc : pc + 3 = pc') (k : ja_W C cells slots lay mem n pc' (x0 :: x1 :: x2 :: x3 :: x4 :: x5 :: x6 :: x7 :: x8 :: x9 :: x10 :: x11 :: some (.int (ja_I (x + dz))) :: r) st) : ja_W C cells slots lay mem n pc (x0 :: x1 :: x2 :: x3 :: x4 :: x5 :: x6 :: x7 :: x8 :: x9 :: x10 :: x11 :: some (.int (ja_I x)) :: r) st := r_iinc F (i := 12) rfl hn hp rfl d hpc k
theorem r_lst12 (F : ja_F C own cc nl rm) {x0 x1 x2 x3 x4 x5 x6 x7 x8 x9 x10 x11 x12 x13 : Option Value} {r : List (Option Value)} {x : Int64} (hn : 12 + 1 < nl) (hp : ja_pre (x0 :: x1 :: x2 :: x3 :: x4 :: x5 :: x6 :: x7 :: x8 :: x9 :: x10 :: x11 :: x12 :: x13 :: r) 12 = true) (d : decode cc pc = .ok (.lstore 12, 2)) {pc' : Nat} (hpc : pc + 2 = pc') (k : ja_W C cells slots lay mem n pc' (x0 :: x1 :: x2 :: x3 :: x4 :: x5 :: x6 :: x7 :: x8 :: x9 :: x10 :: x11 :: some (.long x) :: none :: r) st) : ja_W C cells slots lay mem n pc (x0 :: x1 :: x2 :: x3 :: x4 :: x5 :: x6 :: x7 :: x8 :: x9 :: x10 :: x11 :: x12 :: x13 :: r) (.long x :: st) := r_lstore F hn hp rfl d hpc k
end
end
section
/-- what the tables say of a field of class ci, place k, as class own links it at index -/
def ja_Fd (own : String) (index ci k : Nat) (ty : FieldType) (fin : Bool) : Prop := ∃ (Cn : String) (T : u_T) (N : Nat) (ty0 : Nat → FieldType), vwCl[ci]? = some (Cn, T, N) ∧ k < N ∧ (∀ w ∈ u_ws Cn T N, w ∈ lw_tbg) ∧ Cond.fieldLink own index Cn (T k).2.1 (T k).2.2.1 ∈ lw_tbg ∧ (T k).1 = Cn ∧ (∀ k, k < N → parseFieldDescriptor (T k).2.2.1 = some (ty0 k)) ∧ (∀ a, a < N → ∀ b, b < N → a ≠ b → (T a).2.1 ≠ (T b).2.1) ∧ (T k).2.2.2 = fin ∧ parseFieldDescriptor (T k).2.2.1 = some ty
def ja_FdN (own : String) (index ci k : Nat) : Prop := ∃ (Cn : String) (T : u_T) (N : Nat) (host : String), vwCl[ci]? = some (Cn, T, N) ∧ k < N ∧ (∀ w ∈ u_ws Cn T N, w ∈ lw_tbg) ∧ Cond.fieldLinkNest own index Cn (T k).2.1 (T k).2.2.1 host ∈ lw_tbl ∧ (T k).1 = Cn
theorem va_at.obj {D : va_G} {cl : List vw_C} {a ci : Nat} {fs : List Value} {H : Heap} {r : vw_C} (h : va_at D cl (a, .inr (ci, fs)) H) (hc : cl[ci]? = some r) : t_OB a (D.1 ci) r.2.2 (D.2 ci) H (vp_V fs) := by
  obtain ⟨r', h1, h2⟩ := h
  have : r' = r := Option.some.inj (h1.symm.trans hc)
  subst this
  exact h2
section
variable {C : ja_C} {own : String} {cc : ByteArray} {nl : Nat} {rm : Room} {cells slots n : Nat} {lay : ja_Y} {mem : ja_M} {pc : Nat} {ls : List (Option Value)} {st : List Value}
theorem r_getV (F : ja_F C own cc nl rm) {a ci k index : Nat} {ty : FieldType} {fin : Bool} {ds : List (Option Value)} {dv : Option Value} (f : ja_Fd own index ci k ty fin) (hy : lay a = some (.inl (ci, ds))) (hd : ds[k]? = some dv) (d : decode cc pc = .ok (.getfield index, 3)) {pc' : Nat} (hpc : pc + 3 = pc') (kk : ja_W C cells slots lay mem n pc' ls (ja_dv dv (mem a k) :: st)) : ja_W C cells slots lay mem n pc ls (.ref a :: st) := by
  subst hpc
  obtain ⟨p, l, e, R, s, m, args, below, meth, c, D, cA, B, nL, Q⟩ := C
  obtain ⟨hnl, hrm, hx, hb, hml, hown, hts, ⟨hK, hAO, hNw⟩, hlk, hB⟩ := F
  subst hnl; subst hrm
  obtain ⟨Cn, T, N, ty0, hc, hk, hin, hlink, hsm, hty, hnm, hfin, hpd⟩ := f
  intro H locs lsA hH hS hl
  have hat := (hH.2 a _ hy).2.2
  have hP : va_P D vwCl [(a, .inr (ci, ja_fs 0 ds (mem a)))] H := fun q w hq => by
    cases q with
    | zero => cases hq; exact hat
    | succ q => simp at hq
  exact va_get hx hb hts hin hown hK hP 0 rfl hc k hk (hts _ hlink) (fun x h => by rw [hsm] at h; exact h) (ja_fs_get0 hd) d (kk H locs lsA hH hS hl)
theorem r_getVN (F : ja_F C own cc nl rm) {a ci k index : Nat} {ds : List (Option Value)} {dv : Option Value} (f : ja_FdN own index ci k) (hy : lay a = some (.inl (ci, ds))) (hd : ds[k]? = some dv) (d : decode cc pc = .ok (.getfield index, 3)) {pc' : Nat} (hpc : pc + 3 = pc') (kk : ja_W C cells slots lay mem n pc' ls (ja_dv dv (mem a k) :: st)) : ja_W C cells slots lay mem n pc ls (.ref a :: st) := by
  subst hpc
  obtain ⟨p, l, e, R, s, m, args, below, meth, c, D, cA, B, nL, Q⟩ := C
  obtain ⟨hnl, hrm, hx, hb, hml, hown, hts, ⟨hK, hAO, hNw⟩, hlk, hB⟩ := F
  subst hnl; subst hrm
  obtain ⟨Cn, T, N, host, hc, hk, hin, hlink, hsm⟩ := f
  intro H locs lsA hH hS hl
  have hat := (hH.2 a _ hy).2.2
  have hP : va_P D vwCl [(a, .inr (ci, ja_fs 0 ds (mem a)))] H := fun q w hq => by
    cases q with
    | zero => cases hq; exact hat
    | succ q => simp at hq
  exact va_getN hx hb hts hin hown hK hP 0 rfl hc k hk (va_Nw.use rfl (hNw _ hlink rfl)) (fun x h => by rw [hsm] at h; exact h) (ja_fs_get0 hd) d (kk H locs lsA hH hS hl)
theorem r_getRN (F : ja_F C own cc nl rm) {a ci k index : Nat} {ds : List (Option Value)} {v : Value} (f : ja_FdN own index ci k) (hy : lay a = some (.inl (ci, ds))) (hd : ds[k]? = some (some v)) (d : decode cc pc = .ok (.getfield index, 3)) {pc' : Nat} (hpc : pc + 3 = pc') (kk : ja_W C cells slots lay mem n pc' ls (v :: st)) : ja_W C cells slots lay mem n pc ls (.ref a :: st) := r_getVN F f hy hd d hpc kk
theorem r_getI (F : ja_F C own cc nl rm) {a ci k index : Nat} {ty : FieldType} {fin : Bool} {ds : List (Option Value)} (f : ja_Fd own index ci k ty fin) (hy : lay a = some (.inl (ci, ds))) (hd : ds[k]? = some none) (d : decode cc pc = .ok (.getfield index, 3)) {pc' : Nat} (hpc : pc + 3 = pc') (kk : ja_W C cells slots lay mem n pc' ls (.int (ja_I (mem a k)) :: st)) : ja_W C cells slots lay mem n pc ls (.ref a :: st) := r_getV F f hy hd d hpc kk
theorem r_getR (F : ja_F C own cc nl rm) {a ci k index : Nat} {ty : FieldType} {fin : Bool} {ds : List (Option Value)} {v : Value} (f : ja_Fd own index ci k ty fin) (hy : lay a = some (.inl (ci, ds))) (hd : ds[k]? = some (some v)) (d : decode cc pc = .ok (.getfield index, 3)) {pc' : Nat} (hpc : pc + 3 = pc') (kk : ja_W C cells slots lay mem n pc' ls (v :: st)) : ja_W C cells slots lay mem n pc ls (.ref a :: st) := r_getV F f hy hd d hpc kk
/-- the world behind a store into the cell a -/
theorem ja_H.upd {D : va_G} {cA : Nat → ClassId} {B n a : Nat} {lay lay' : ja_Y} {mem mem' : ja_M} {H H1 : Heap} {e' : ja_E} (h : ja_H D cA B lay mem n H) (hz : H1.size = H.size) (oq : ∀ q, q ≠ a → H1[q]? = H[q]?) (hB : B ≤ a ∧ a < n) (he : va_at D vwCl (a, ja_cell cA e' (mem' a)) H1) (hl : ∀ q e, lay' q = some e → (q = a ∧ e = e') ∨ (q ≠ a ∧ lay q = some e)) (hm : ∀ q, q ≠ a → mem' q = mem q) : ja_H D cA B lay' mem' n H1 := by
  refine ⟨hz.trans h.1, fun q e hq => ?_⟩
  rcases hl q e hq with ⟨rfl, rfl⟩ | ⟨h1, h2⟩
  · exact ⟨hB.1, hB.2, he⟩
  · obtain ⟨g1, g2, g3⟩ := h.2 q e h2
    exact ⟨g1, g2, by rw [hm q h1]; exact g3.kept (oq q h1)⟩
theorem ja_same {lay : ja_Y} {a : Nat} {e' : ja_E} (h : lay a = some e') : ∀ q e, lay q = some e → (q = a ∧ e = e') ∨ (q ≠ a ∧ lay q = some e) := by
  intro q e hq
  by_cases hqa : q = a
  · subst hqa
    rw [h] at hq
    exact Or.inl ⟨rfl, (Option.some.inj hq).symm⟩
  · exact Or.inr ⟨hqa, hq⟩
theorem ja_up_o {mem : ja_M} {a j : Nat} {z : Int} : ∀ q, q ≠ a → ja_up mem a j z q = mem q := fun q hq => ja_up_row hq
theorem r_putV (F : ja_F C own cc nl rm) {a ci k index : Nat} {ty : FieldType} {ds : List (Option Value)} {z : Int} (f : ja_Fd own index ci k ty false) (hy : lay a = some (.inl (ci, ds))) (hd : ds[k]? = some none) (hn : narrow ty (.int (ja_I z)) = .int (ja_I z)) (hfit : fits ty (.int (ja_I z)) = true) (d : decode cc pc = .ok (.putfield index, 3)) {pc' : Nat} (hpc : pc + 3 = pc') (kk : ja_W C cells slots lay (ja_up mem a k z) n pc' ls st) : ja_W C cells slots lay mem n pc ls (.int (ja_I z) :: .ref a :: st) := by
  subst hpc
  obtain ⟨p, l, e, R, s, m, args, below, meth, c, D, cA, B, nL, Q⟩ := C
  obtain ⟨hnl, hrm, hx, hb, hml, hown, hts, ⟨hK, hAO, hNw⟩, hlk, hB⟩ := F
  subst hnl; subst hrm
  obtain ⟨Cn, T, N, ty0, hc, hk, hin, hlink, hsm, hty, hnm, hfin, hpd⟩ := f
  intro H locs lsA hH hS hl
  obtain ⟨hBa, han, hat⟩ := hH.2 a _ hy
  have hap := va_apart (own := own) hts hin ty0 hty hnm hK hc
  obtain ⟨cell, q1, q2, q3, q4⟩ := va_at.obj hat hc
  obtain ⟨hSl, hfc, kC, hkC, hkind⟩ := hK.1 ci _ hc
  obtain ⟨cf, kf, fi, fd, hi, hsl⟩ := hSl k hk
  have hlay := hts _ (hin _ (u_in_lay hk))
  unfold u_lay at hlay
  rw [if_neg (by rw [hfin]; decide)] at hlay
  have hst := (u_facts hfc hkC (u_lays hts hin hk) hi).1
  have h6 := u_store hfc hkC hkind hlay hi hpd hn hfit
  have hi' : s.fieldFound? Cn (T k).2.1 (T k).2.2.1 = some (cf, kf, fi, fd) := by have := hi; rw [hsm] at this; exact this
  refine W.putK hx hb (f := fd) ⟨hown, hts _ hlink, ⟨_, _, _, hi'⟩, hst⟩ (by rw [q2]; exact h6) q1 q3 (by rw [hsl]; exact k2_hasslot (q4 k hk)) rfl rfl d fun H' e1 e2 e3 => ?_
  rw [hsl] at e1 ⊢
  refine kk H' _ lsA (hH.upd (a := a) e2 e3 ⟨hBa, han⟩ ?_ (ja_same hy) ja_up_o) (hS.put e2 e3 hBa) hl
  refine ⟨_, hc, ?_⟩
  have h7 := t_OB.to (V' := vp_V (ja_fs 0 ds (ja_up mem a k z a))) ⟨_, e1, q2, q3, t_set q4 hap hk (.int (ja_I z))⟩ (fun j _ => by
    rw [vp_updV_set (by rw [ja_fs_len]; exact (List.getElem?_eq_some_iff.mp hd).1) (.int (ja_I z)) j, ja_fs_put hd])
  exact h7
theorem r_putI (F : ja_F C own cc nl rm) {a ci k index : Nat} {ds : List (Option Value)} {z : Int} (f : ja_Fd own index ci k .int false) (hy : lay a = some (.inl (ci, ds))) (hd : ds[k]? = some none) (d : decode cc pc = .ok (.putfield index, 3)) {pc' : Nat} (hpc : pc + 3 = pc') (kk : ja_W C cells slots lay (ja_up mem a k z) n pc' ls st) : ja_W C cells slots lay mem n pc ls (.int (ja_I z) :: .ref a :: st) := r_putV F f hy hd rfl rfl d hpc kk
theorem r_putZ (F : ja_F C own cc nl rm) {a ci k index : Nat} {ds : List (Option Value)} {z : Int} (hz : z = 0 ∨ z = 1) (f : ja_Fd own index ci k .boolean false) (hy : lay a = some (.inl (ci, ds))) (hd : ds[k]? = some none) (d : decode cc pc = .ok (.putfield index, 3)) {pc' : Nat} (hpc : pc + 3 = pc') (kk : ja_W C cells slots lay (ja_up mem a k z) n pc' ls st) : ja_W C cells slots lay mem n pc ls (.int (ja_I z) :: .ref a :: st) := r_putV F f hy hd (by rcases hz with rfl | rfl <;> decide) (by rcases hz with rfl | rfl <;> decide) d hpc kk
/-- a final field, by the constructor: the layout gets its value -/
def ja_ly (lay : ja_Y) (a : Nat) (e : ja_E) : ja_Y := fun q => if q = a then some e else lay q
theorem ja_ly_s (lay : ja_Y) (a : Nat) (e : ja_E) : ja_ly lay a e a = some e := by simp [ja_ly]
theorem ja_ly_n {lay : ja_Y} {a q : Nat} {e : ja_E} (h : q ≠ a) : ja_ly lay a e q = lay q := by simp [ja_ly, h]
theorem ja_ly_in {lay : ja_Y} {a : Nat} {e' : ja_E} : ∀ q e, ja_ly lay a e' q = some e → (q = a ∧ e = e') ∨ (q ≠ a ∧ lay q = some e) := by
  intro q e hq
  by_cases hqa : q = a
  · subst hqa
    rw [ja_ly_s] at hq
    exact Or.inl ⟨rfl, (Option.some.inj hq).symm⟩
  · rw [ja_ly_n hqa] at hq
    exact Or.inr ⟨hqa, hq⟩
theorem ja_fs_setY : ∀ (ds : List (Option Value)) (i : Nat) (f : Nat → Int) (k : Nat) (v : Value), (ja_fs i ds f).set k v = ja_fs i (ds.set k (some v)) f
  | [], _, _, _, _ => rfl
  | d0 :: ds, i, f, 0, v => rfl
  | d0 :: ds, i, f, k + 1, v => by
    simp only [ja_fs, List.set_cons_succ]
    rw [ja_fs_setY ds (i + 1) f k v]
theorem r_putF (F : ja_F C own cc nl rm) (hnm0 : C.2.2.2.2.2.2.2.2.1.name = "<init>") {a ci k index q : Nat} {ty : FieldType} {ds : List (Option Value)} (hfit : fits ty (.ref q) = true) (hnar : narrow ty (.ref q) = .ref q) (hdecl : vwCl[ci]?.map (·.1) = some own) (f : ja_Fd own index ci k ty true) (hy : lay a = some (.inl (ci, ds))) (hd : k < ds.length) (d : decode cc pc = .ok (.putfield index, 3)) {pc' : Nat} (hpc : pc + 3 = pc') (kk : ja_W C cells slots (ja_ly lay a (.inl (ci, ds.set k (some (.ref q))))) mem n pc' ls st) : ja_W C cells slots lay mem n pc ls (.ref q :: .ref a :: st) := by
  subst hpc
  obtain ⟨p, l, e, R, s, m, args, below, meth, c, D, cA, B, nL, Q⟩ := C
  obtain ⟨hnl, hrm, hx, hb, hml, hown, hts, ⟨hK, hAO, hNw⟩, hlk, hB⟩ := F
  subst hnl; subst hrm
  obtain ⟨Cn, T, N, ty0, hc, hk, hin, hlink, hsm, hty, hnm, hfin, hpd⟩ := f
  intro H locs lsA hH hS hl
  obtain ⟨hBa, han, hat⟩ := hH.2 a _ hy
  have hap := va_apart (own := own) hts hin ty0 hty hnm hK hc
  obtain ⟨cell, q1, q2, q3, q4⟩ := va_at.obj hat hc
  obtain ⟨hSl, hfc, kC, hkC, hkind⟩ := hK.1 ci _ hc
  obtain ⟨cf, kf, fi, fd, hi, hsl⟩ := hSl k hk
  have hlay := hts _ (hin _ (u_in_lay hk))
  unfold u_lay at hlay
  rw [if_pos hfin] at hlay
  have hst := (u_facts hfc hkC (u_lays hts hin hk) hi).1
  have hCn : Cn = own := by
    rw [hc] at hdecl
    exact Option.some.inj hdecl
  have hcf : m.cls = cf := by
    obtain ⟨_, _, c', _, _, _, -, -, hf', -, -, -, hown2, -⟩ := Cond.laysFinal_spec hlay
    have e1 : c' = cf := by have := hi.symm.trans hf'; simp at this; exact this.1.symm
    rw [hsm, hCn] at hown2
    rw [← e1]; exact Option.some.inj (hown.symm.trans hown2)
  have h6 := u_fits hfc hkC hkind (Or.inr hlay) hi hpd hnar hfit
  have hi' : s.fieldFound? Cn (T k).2.1 (T k).2.2.1 = some (cf, kf, fi, fd) := by have := hi; rw [hsm] at this; exact this
  refine W.putFinK hx hb hown (hts _ hlink) hi' hst hcf hnm0 (by rw [q2]; exact h6) q1 q3 (by rw [hsl]; exact k2_hasslot (q4 k hk)) rfl rfl d fun H' e1 e2 e3 => ?_
  rw [hsl] at e1 ⊢
  refine kk H' _ lsA (hH.upd (a := a) (mem' := mem) (e' := .inl (ci, ds.set k (some (.ref q)))) e2 e3 ⟨hBa, han⟩ ?_ ja_ly_in (fun _ _ => rfl)) (hS.put e2 e3 hBa) hl
  refine ⟨_, hc, ?_⟩
  exact t_OB.to (V' := vp_V (ja_fs 0 (ds.set k (some (.ref q))) (mem a))) ⟨_, e1, q2, q3, t_set q4 hap hk (.ref q)⟩ (fun j _ => by
    rw [vp_updV_set (by rw [ja_fs_len]; exact hd) (.ref q) j, ja_fs_setY])
-- arrays
theorem ja_arr {cA : Nat → ClassId} {s : State} {D : va_G} (hK : va_K D vwCl (ja_tys cA) s) (t : Nat) {ca : ClassId} {ty : FieldType} (ht : (ja_tys cA)[t]? = some (ca, ty)) : ArrOfT s ca ty := (hK.2 t _ ht).1
theorem r_iald (F : ja_F C own cc nl rm) {a N : Nat} {r : Nat → Option Nat} {z : Int} (hy : lay a = some (.inr (0, N, r))) (h0 : 0 ≤ z) (h1 : z < N) (hN : N ≤ 2147483648) (d : decode cc pc = .ok (.iaload, 1)) {pc' : Nat} (hpc : pc + 1 = pc') (kk : ja_W C cells slots lay mem n pc' ls (.int (ja_I (mem a z.toNat)) :: st)) : ja_W C cells slots lay mem n pc ls (.int (ja_I z) :: .ref a :: st) := by
  subst hpc
  obtain ⟨p, l, e, R, s, m, args, below, meth, c, D, cA, B, nL, Q⟩ := C
  obtain ⟨hnl, hrm, hx, hb, hml, hown, hts, ⟨hK, hAO, hNw⟩, hlk, hB⟩ := F
  subst hnl; subst hrm
  intro H locs lsA hH hS hl
  have hat := (hH.2 a _ hy).2.2
  have hP : va_P D vwCl [(a, .inl (cA 0, N, .inl (fun j => ja_I (mem a j))))] H := fun q w hq => by
    cases q with
    | zero => cases hq; exact hat
    | succ q => simp at hq
  have hk := kk H locs lsA hH hS hl
  rw [← ja_clamp (z := z) ⟨by omega, by omega⟩] at hk
  exact va_iald hx hb hK hP 0 0 rfl rfl (ja_vpin h0 h1 hN) d hk
theorem r_zald (F : ja_F C own cc nl rm) {a N : Nat} {r : Nat → Option Nat} {z : Int} (hy : lay a = some (.inr (2, N, r))) (h0 : 0 ≤ z) (h1 : z < N) (hN : N ≤ 2147483648) (d : decode cc pc = .ok (.baload, 1)) {pc' : Nat} (hpc : pc + 1 = pc') (kk : ja_W C cells slots lay mem n pc' ls (.int (ja_I (mem a z.toNat)) :: st)) : ja_W C cells slots lay mem n pc ls (.int (ja_I z) :: .ref a :: st) := by
  subst hpc
  obtain ⟨p, l, e, R, s, m, args, below, meth, c, D, cA, B, nL, Q⟩ := C
  obtain ⟨hnl, hrm, hx, hb, hml, hown, hts, ⟨hK, hAO, hNw⟩, hlk, hB⟩ := F
  subst hnl; subst hrm
  intro H locs lsA hH hS hl
  have hat := (hH.2 a _ hy).2.2
  have hP : va_P D vwCl [(a, .inl (cA 2, N, .inl (fun j => ja_I (mem a j))))] H := fun q w hq => by
    cases q with
    | zero => cases hq; exact hat
    | succ q => simp at hq
  have hk := kk H locs lsA hH hS hl
  rw [← ja_clamp (z := z) ⟨by omega, by omega⟩] at hk
  exact va_zald hx hb hK hP 0 2 rfl rfl (ja_vpin h0 h1 hN) d hk
theorem r_lald (F : ja_F C own cc nl rm) {a N : Nat} {r : Nat → Option Nat} {z : Int} (hy : lay a = some (.inr (1, N, r))) (h0 : 0 ≤ z) (h1 : z < N) (hN : N ≤ 2147483648) (d : decode cc pc = .ok (.laload, 1)) {pc' : Nat} (hpc : pc + 1 = pc') (kk : ja_W C cells slots lay mem n pc' ls (.long (ja_L (mem a z.toNat)) :: st)) : ja_W C cells slots lay mem n pc ls (.int (ja_I z) :: .ref a :: st) := by
  subst hpc
  obtain ⟨p, l, e, R, s, m, args, below, meth, c, D, cA, B, nL, Q⟩ := C
  obtain ⟨hnl, hrm, hx, hb, hml, hown, hts, ⟨hK, hAO, hNw⟩, hlk, hB⟩ := F
  subst hnl; subst hrm
  intro H locs lsA hH hS hl
  have hat := (hH.2 a _ hy).2.2
  have hP : va_P D vwCl [(a, .inl (cA 1, N, .inr (.inl (fun j => ja_L (mem a j)))))] H := fun q w hq => by
    cases q with
    | zero => cases hq; exact hat
    | succ q => simp at hq
  have hk := kk H locs lsA hH hS hl
  rw [← ja_clamp (z := z) ⟨by omega, by omega⟩] at hk
  exact va_lald hx hb hK hP 0 1 rfl rfl (ja_vpin h0 h1 hN) d hk
theorem r_aald (F : ja_F C own cc nl rm) {a N : Nat} {r : Nat → Option Nat} {z : Int} (hy : lay a = some (.inr (3, N, r))) (h0 : 0 ≤ z) (h1 : z < N) (hN : N ≤ 2147483648) (d : decode cc pc = .ok (.aaload, 1)) {pc' : Nat} (hpc : pc + 1 = pc') (kk : ja_W C cells slots lay mem n pc' ls (va_rf (r z.toNat) :: st)) : ja_W C cells slots lay mem n pc ls (.int (ja_I z) :: .ref a :: st) := by
  subst hpc
  obtain ⟨p, l, e, R, s, m, args, below, meth, c, D, cA, B, nL, Q⟩ := C
  obtain ⟨hnl, hrm, hx, hb, hml, hown, hts, ⟨hK, hAO, hNw⟩, hlk, hB⟩ := F
  subst hnl; subst hrm
  intro H locs lsA hH hS hl
  have hat := (hH.2 a _ hy).2.2
  have hP : va_P D vwCl [(a, .inl (cA 3, N, .inr (.inr (.inr (.inr r)))))] H := fun q w hq => by
    cases q with
    | zero => cases hq; exact hat
    | succ q => simp at hq
  have hk := kk H locs lsA hH hS hl
  rw [← ja_clamp (z := z) ⟨by omega, by omega⟩] at hk
  exact va_aldq hx hb hK hP 0 3 rfl rfl (ja_vpin h0 h1 hN) d hk
theorem r_iast (F : ja_F C own cc nl rm) {a N : Nat} {r : Nat → Option Nat} {z x : Int} (hy : lay a = some (.inr (0, N, r))) (h0 : 0 ≤ z) (h1 : z < N) (hN : N ≤ 2147483648) (d : decode cc pc = .ok (.iastore, 1)) {pc' : Nat} (hpc : pc + 1 = pc') (kk : ja_W C cells slots lay (ja_up mem a z.toNat x) n pc' ls st) : ja_W C cells slots lay mem n pc ls (.int (ja_I x) :: .int (ja_I z) :: .ref a :: st) := by
  subst hpc
  obtain ⟨p, l, e, R, s, m, args, below, meth, c, D, cA, B, nL, Q⟩ := C
  obtain ⟨hnl, hrm, hx, hb, hml, hown, hts, ⟨hK, hAO, hNw⟩, hlk, hB⟩ := F
  subst hnl; subst hrm
  intro H locs lsA hH hS hl
  obtain ⟨hBa, han, hat⟩ := hH.2 a _ hy
  refine W.iast hx hb hat ((hK.2 0 _ rfl).1 N (fun j => .int (ja_I (mem a j)))) (fun q => by cases q) (by show ¬ (_ ∨ (arrV _ _ _).slots.size ≤ _); rw [arrV_size]; exact ja_vpin h0 h1 hN) rfl rfl d fun H1 e1 e2 e3 => ?_
  refine kk H1 _ lsA (hH.upd (a := a) e2 e3 ⟨hBa, han⟩ ?_ (ja_same hy) ja_up_o) (hS.put e2 e3 hBa) hl
  show H1[a]? = some (vp_cell _ _)
  rw [e1]
  show some ((vp_cell (cA 0) (N, .inl (fun j => ja_I (mem a j)))).setSlot _ _) = some (vp_cell (cA 0) (N, .inl _))
  rw [vp_cell_i, vp_cell_i, arrV_store, ja_clamp ⟨by omega, by omega⟩]
  congr 2
  funext q
  by_cases hq : q = z.toNat
  · subst hq
    simp [updV, ja_up]
  · simp [updV, ja_up, hq]
theorem r_zast (F : ja_F C own cc nl rm) {a N : Nat} {r : Nat → Option Nat} {z x : Int} (hz : x = 0 ∨ x = 1) (hy : lay a = some (.inr (2, N, r))) (h0 : 0 ≤ z) (h1 : z < N) (hN : N ≤ 2147483648) (d : decode cc pc = .ok (.bastore, 1)) {pc' : Nat} (hpc : pc + 1 = pc') (kk : ja_W C cells slots lay (ja_up mem a z.toNat x) n pc' ls st) : ja_W C cells slots lay mem n pc ls (.int (ja_I x) :: .int (ja_I z) :: .ref a :: st) := by
  subst hpc
  obtain ⟨p, l, e, R, s, m, args, below, meth, c, D, cA, B, nL, Q⟩ := C
  obtain ⟨hnl, hrm, hx, hb, hml, hown, hts, ⟨hK, hAO, hNw⟩, hlk, hB⟩ := F
  subst hnl; subst hrm
  intro H locs lsA hH hS hl
  obtain ⟨hBa, han, hat⟩ := hH.2 a _ hy
  refine W.zast hx hb hat ((hK.2 2 _ rfl).1 N (fun j => .int (ja_I (mem a j)))) (fun q => by cases q) (by show ¬ (_ ∨ (arrV _ _ _).slots.size ≤ _); rw [arrV_size]; exact ja_vpin h0 h1 hN) rfl rfl d fun H1 e1 e2 e3 => ?_
  refine kk H1 _ lsA (hH.upd (a := a) e2 e3 ⟨hBa, han⟩ ?_ (ja_same hy) ja_up_o) (hS.put e2 e3 hBa) hl
  show H1[a]? = some (vp_cell _ _)
  rw [e1]
  show some ((vp_cell (cA 2) (N, .inl (fun j => ja_I (mem a j)))).setSlot _ _) = some (vp_cell (cA 2) (N, .inl _))
  rw [vp_cell_i, vp_cell_i, arrV_store, ja_clamp ⟨by omega, by omega⟩]
  congr 2
  funext q
  by_cases hq : q = z.toNat
  · subst hq
    rcases hz with rfl | rfl <;> simp [updV, ja_up] <;> decide
  · simp [updV, ja_up, hq]
theorem r_last (F : ja_F C own cc nl rm) {a N : Nat} {r : Nat → Option Nat} {z : Int} {x : Int64} (hy : lay a = some (.inr (1, N, r))) (h0 : 0 ≤ z) (h1 : z < N) (hN : N ≤ 2147483648) (d : decode cc pc = .ok (.lastore, 1)) {pc' : Nat} (hpc : pc + 1 = pc') (kk : ja_W C cells slots lay (ja_up mem a z.toNat x.toInt) n pc' ls st) : ja_W C cells slots lay mem n pc ls (.long x :: .int (ja_I z) :: .ref a :: st) := by
  subst hpc
  obtain ⟨p, l, e, R, s, m, args, below, meth, c, D, cA, B, nL, Q⟩ := C
  obtain ⟨hnl, hrm, hx, hb, hml, hown, hts, ⟨hK, hAO, hNw⟩, hlk, hB⟩ := F
  subst hnl; subst hrm
  intro H locs lsA hH hS hl
  obtain ⟨hBa, han, hat⟩ := hH.2 a _ hy
  refine W.last hx hb hat ((hK.2 1 _ rfl).1 N (fun j => .long (ja_L (mem a j)))) (fun q => by cases q) (by show ¬ (_ ∨ (arrV _ _ _).slots.size ≤ _); rw [arrV_size]; exact ja_vpin h0 h1 hN) rfl rfl d fun H1 e1 e2 e3 => ?_
  refine kk H1 _ lsA (hH.upd (a := a) e2 e3 ⟨hBa, han⟩ ?_ (ja_same hy) ja_up_o) (hS.put e2 e3 hBa) hl
  show H1[a]? = some (vp_cell _ _)
  rw [e1]
  show some ((vp_cell (cA 1) (N, .inr (.inl (fun j => ja_L (mem a j))))).setSlot _ _) = some (vp_cell (cA 1) (N, .inr (.inl _)))
  rw [vp_cell_l, vp_cell_l, arrV_store, ja_clamp ⟨by omega, by omega⟩]
  congr 2
  funext q
  by_cases hq : q = z.toNat
  · subst hq
    simp [updV, ja_up, ja_Lof]
  · simp [updV, ja_up, hq]
end
end
section
-- what is made
def ja_zr (mem : ja_M) (a : Nat) : ja_M := fun q j => if q = a then 0 else mem q j
theorem ja_zr_s (mem : ja_M) (a j : Nat) : ja_zr mem a a j = 0 := by simp [ja_zr]
theorem ja_zr_n {mem : ja_M} {a q : Nat} (h : q ≠ a) : ja_zr mem a q = mem q := by funext j; simp [ja_zr, h]
def ja_New (own : String) (index ci N : Nat) (ds : List (Option Value)) : Prop := ∃ (Cn : String) (T : u_T) (ty0 : Nat → FieldType), vwCl[ci]? = some (Cn, T, N) ∧ (∀ w ∈ u_ws Cn T N, w ∈ lw_tbg) ∧ (∀ k, k < N → parseFieldDescriptor (T k).2.2.1 = some (ty0 k)) ∧ Cond.classLink own index Cn ∈ lw_tbg ∧ Cond.instantiable Cn N ∈ lw_tbg ∧ Cond.initialized Cn ∈ lw_tbg ∧ ∀ j, j < N → defaultValue (ty0 j) = vp_V (ja_fs 0 ds (fun _ => 0)) j
theorem ja_H.push {D : va_G} {cA : Nat → ClassId} {B n : Nat} {lay : ja_Y} {mem : ja_M} {H H1 : Heap} {e' : ja_E} (h : ja_H D cA B lay mem n H) (hB : B ≤ n) (hz : H1.size = n + 1) (oq : ∀ q, q < n → H1[q]? = H[q]?) (he : va_at D vwCl (n, ja_cell cA e' (fun _ => 0)) H1) : ja_H D cA B (ja_ly lay n e') (ja_zr mem n) (n + 1) H1 := by
  refine ⟨hz, fun q e hq => ?_⟩
  rcases ja_ly_in q e hq with ⟨rfl, rfl⟩ | ⟨h1, h2⟩
  · exact ⟨hB, by omega, by rw [show ja_zr mem q q = (fun _ => 0) from funext fun j => ja_zr_s mem q j]; exact he⟩
  · obtain ⟨g1, g2, g3⟩ := h.2 q e h2
    exact ⟨g1, by omega, by rw [ja_zr_n h1]; exact g3.kept (oq q g2)⟩
section
variable {C : ja_C} {own : String} {cc : ByteArray} {nl : Nat} {rm : Room} {cells slots n : Nat} {lay : ja_Y} {mem : ja_M} {pc : Nat} {ls : List (Option Value)} {st : List Value}
theorem r_new (F : ja_F C own cc nl rm) {index ci N : Nat} {ds : List (Option Value)} (f : ja_New own index ci N ds) (hc1 : cells + 1 ≤ rm.cells) (hs1 : slots + N ≤ rm.slots) (d : decode cc pc = .ok (.new index, 3)) {pc' : Nat} (hpc : pc + 3 = pc') (kk : ja_W C (cells + 1) (slots + N) (ja_ly lay n (.inl (ci, ds))) (ja_zr mem n) (n + 1) pc' ls (.ref n :: st)) : ja_W C cells slots lay mem n pc ls st := by
  subst hpc
  obtain ⟨p, l, e, R, s, m, args, below, meth, c, D, cA, B, nL, Q⟩ := C
  obtain ⟨hnl, hrm, hx, hb, hml, hown, hts, ⟨hK, hAO, hNw⟩, hlk, hB⟩ := F
  subst hnl; subst hrm
  obtain ⟨Cn, T, ty0, hc, hin, hty, hcl, hins, hini, hdef⟩ := f
  intro H locs lsA hH hS hl
  have hKn := hK.1 ci _ hc
  have hBn : B ≤ n := by have := hS.1; rw [hH.1] at this; omega
  refine W.newcK hx hb hown (hts _ hcl) (hts _ hins) (hts _ hini) rfl d hc1 hs1 hKn.2.1 hH.1 fun H1 kC hkC e1 z1 o1 => ?_
  refine kk H1 locs lsA (hH.push hBn z1 o1 ⟨_, hc, (u_born ty0 hts hin hKn hkC e1 hty).to hdef⟩) ⟨by have := hS.1; have := hH.1; omega, fun x h1 h2 => (o1 x (by have := hS.1; have := hH.1; omega)).trans (hS.2.1 x h1 h2), hS.2.2⟩ hl
theorem r_newa (F : ja_F C own cc nl rm) {atype : ArrayType} {kd : Nat} {z : Int} (hw : Cond.arrayClass (newarray.typeOf atype) ∈ lw_tbg) (hkd : kd < 3) (hty : (ja_tys (fun q => q))[kd]?.map (·.2) = some (newarray.typeOf atype)) (h0 : 0 ≤ z) (hb1 : z ≤ 60000000) (hc1 : cells + 1 ≤ rm.cells) (hs1 : slots + z.toNat ≤ rm.slots) (d : decode cc pc = .ok (.newarray atype, 2)) {pc' : Nat} (hpc : pc + 2 = pc') (kk : ja_W C (cells + 1) (slots + z.toNat) (ja_ly lay n (.inr (kd, z.toNat, fun _ => none))) (ja_zr mem n) (n + 1) pc' ls (.ref n :: st)) : ja_W C cells slots lay mem n pc ls (.int (ja_I z) :: st) := by
  subst hpc
  obtain ⟨p, l, e, R, s, m, args, below, meth, c, D, cA, B, nL, Q⟩ := C
  obtain ⟨hnl, hrm, hx, hb, hml, hown, hts, ⟨hK, hAO, hNw⟩, hlk, hB⟩ := F
  subst hnl; subst hrm
  intro H locs lsA hH hS hl
  have hBn : B ≤ n := by have := hS.1; rw [hH.1] at this; omega
  have hzi : ja_in z := ⟨by omega, by omega⟩
  have hcb : componentBytes (newarray.typeOf atype) ≤ 8 := by cases atype <;> decide
  refine va_newaK hx hb (hts _ hw) rfl d rfl (by rw [ja_zero, ja_lt hzi ja_in0]; omega) (ja_clamp hzi) (Nat.le_trans (Nat.mul_le_mul_left _ hcb) (by omega)) hc1 hs1 hH.1 fun H1 ca e1 z1 o1 hAr hNm => ?_
  have hca : ca = cA kd := by
    have hk : ∃ ty, (ja_tys cA)[kd]? = some (cA kd, ty) ∧ newarray.typeOf atype = ty ∧ (ty = .int ∨ ty = .long ∨ ty = .boolean) := by
      match kd, hkd, hty with
      | 0, _, hty => exact ⟨.int, rfl, (Option.some.inj hty).symm, Or.inl rfl⟩
      | 1, _, hty => exact ⟨.long, rfl, (Option.some.inj hty).symm, Or.inr (Or.inl rfl)⟩
      | 2, _, hty => exact ⟨.boolean, rfl, (Option.some.inj hty).symm, Or.inr (Or.inr rfl)⟩
    obtain ⟨ty, h1, h2, h3⟩ := hk
    have h4 := (hK.2 kd _ h1).2
    rw [h2] at hNm
    rcases h3 with rfl | rfl | rfl <;> exact Option.some.inj (hNm.symm.trans h4)
  subst hca
  refine kk H1 locs lsA (hH.push hBn z1 o1 ?_) ⟨by have := hS.1; have := hH.1; omega, fun x h1 h2 => (o1 x (by have := hS.1; have := hH.1; omega)).trans (hS.2.1 x h1 h2), hS.2.2⟩ hl
  match kd, hkd, hty with
  | 0, _, hty => rw [show newarray.typeOf atype = .int from (Option.some.inj hty).symm] at e1; exact e1
  | 1, _, hty => rw [show newarray.typeOf atype = .long from (Option.some.inj hty).symm] at e1; exact e1
  | 2, _, hty => rw [show newarray.typeOf atype = .boolean from (Option.some.inj hty).symm] at e1; exact e1
theorem r_newq (F : ja_F C own cc nl rm) {index : Nat} {z : Int} (hw : Cond.classLink own index RX5 ∈ lw_tbg) (h0 : 0 ≤ z) (hb1 : z ≤ 60000000) (hc1 : cells + 1 ≤ rm.cells) (hs1 : slots + z.toNat ≤ rm.slots) (d : decode cc pc = .ok (.anewarray index, 3)) {pc' : Nat} (hpc : pc + 3 = pc') (kk : ja_W C (cells + 1) (slots + z.toNat) (ja_ly lay n (.inr (3, z.toNat, fun _ => none))) (ja_zr mem n) (n + 1) pc' ls (.ref n :: st)) : ja_W C cells slots lay mem n pc ls (.int (ja_I z) :: st) := by
  subst hpc
  obtain ⟨p, l, e, R, s, m, args, below, meth, c, D, cA, B, nL, Q⟩ := C
  obtain ⟨hnl, hrm, hx, hb, hml, hown, hts, ⟨hK, hAO, hNw⟩, hlk, hB⟩ := F
  subst hnl; subst hrm
  intro H locs lsA hH hS hl
  have hBn : B ≤ n := by have := hS.1; rw [hH.1] at this; omega
  have hzi : ja_in z := ⟨by omega, by omega⟩
  have hk2 := kk
  rw [← ja_clamp hzi] at hk2 hs1
  refine W.anew hx hb hown (hts _ hw) (va_AO.use hAO) rfl d rfl (by rw [ja_zero, ja_lt hzi ja_in0]; omega) (by rw [ja_clamp hzi]; omega) hc1 hs1 fun ca kA comp f1 f2 f3 f4 => ?_
  generalize hH1 : H.push ({ cls := ca, slots := Array.replicate (ja_I z).toNatClampNeg .null, vm := .none } : Cell) = H1
  have z1 : H1.size = n + 1 := by rw [← hH1, Array.size_push, hH.1]
  have e1 : H1[n]? = some (arrV ca (ja_I z).toNatClampNeg (fun _ => .null)) := by rw [← hH1, ← hH.1, Array.getElem?_push_size, ← arrV_new]
  have o1 : ∀ q : Nat, q < n → H1[q]? = H[q]? := fun q hq => by rw [← hH1, Array.getElem?_push, if_neg (by rw [hH.1]; omega)]
  have hca : ca = cA 3 := by
    obtain ⟨kA', comp', g1, g2, g3, g4⟩ := (hK.2 3 _ rfl).2
    exact Option.some.inj (f1.symm.trans g4)
  subst hca
  have hk3 := hk2 H1 locs lsA (hH.push hBn z1 o1 e1) ⟨by have := hS.1; have := hH.1; omega, fun x h1 h2 => (o1 x (by have := hS.1; have := hH.1; omega)).trans (hS.2.1 x h1 h2), hS.2.2⟩ hl
  rw [← hH.1] at hk3
  exact hk3
theorem r_aast (F : ja_F C own cc nl rm) {a v N : Nat} {r : Nat → Option Nat} {z : Int} {ds : List (Option Value)} (hy : lay a = some (.inr (3, N, r))) (hv : lay v = some (.inl (5, ds))) (h0 : 0 ≤ z) (h1 : z < N) (hN : N ≤ 2147483648) (d : decode cc pc = .ok (.aastore, 1)) {pc' : Nat} (hpc : pc + 1 = pc') (kk : ja_W C cells slots (ja_ly lay a (.inr (3, N, va_up r z.toNat (some v)))) mem n pc' ls st) : ja_W C cells slots lay mem n pc ls (.ref v :: .int (ja_I z) :: .ref a :: st) := by
  subst hpc
  obtain ⟨p, l, e, R, s, m, args, below, meth, c, D, cA, B, nL, Q⟩ := C
  obtain ⟨hnl, hrm, hx, hb, hml, hown, hts, ⟨hK, hAO, hNw⟩, hlk, hB⟩ := F
  subst hnl; subst hrm
  intro H locs lsA hH hS hl
  obtain ⟨hBa, han, hat⟩ := hH.2 a _ hy
  obtain ⟨hBv, hvn, hav⟩ := hH.2 v _ hv
  have hin := ja_vpin h0 h1 hN
  have hlt : (ja_I z).toNatClampNeg < N := Nat.not_le.mp fun q => hin (Or.inr q)
  have h00 : ¬ ja_I z < 0 := fun q => hin (Or.inl q)
  obtain ⟨cellV, g1, g2, g3, -⟩ := va_at.obj (r := (RX5, TX5, 9)) hav rfl
  have hcls := (hK.1 5 (RX5, TX5, 9) rfl).2
  obtain ⟨kA, comp, k1, k2, k3, -⟩ := (hK.2 3 _ rfl).2
  have hcomp : comp = D.1 5 := Option.some.inj (k3.symm.trans hcls.1)
  subst hcomp
  obtain ⟨kC, hkC, -⟩ := hcls.2
  refine W.aast hx hb hat (fun q h => by cases h) (fun h => by cases h) k1 k2 rfl hkC ⟨h00, by show _ < (arrV _ _ _).slots.size; rw [arrV_size]; exact hlt⟩ g1 (fun q h => by rw [g3] at h; cases h) (by rw [g2]; exact hkC) (by rw [g2]; exact va_assign hcls) rfl rfl d fun H1 e1 e2 e3 => ?_
  refine kk H1 _ lsA (hH.upd (a := a) (mem' := mem) (e' := .inr (3, N, va_up r z.toNat (some v))) e2 e3 ⟨hBa, han⟩ ?_ ja_ly_in (fun _ _ => rfl)) (hS.put e2 e3 hBa) hl
  show H1[a]? = some (vp_cell _ _)
  rw [e1]
  show some ((vp_cell (cA 3) (N, .inr (.inr (.inr (.inr r))))).setSlot _ _) = some (vp_cell (cA 3) (N, .inr (.inr (.inr (.inr _)))))
  rw [vp_cell_q, vp_cell_q, arrV_store, ja_clamp ⟨by omega, by omega⟩]
  congr 2
  funext q
  by_cases hq : q = z.toNat
  · subst hq
    simp [updV, va_up, va_rf]
  · simp [updV, va_up, hq]
theorem r_objinit (F : ja_F C own cc nl rm) {a index : Nat} (hw : Cond.methodLink own index objectInit ∈ lw_tbg) (hst : (st.map fun v => v.category).sum ≤ 8) (hfr : 1 ≤ rm.frames) (hlo : 20 ≤ rm.locals) (d : decode cc pc = .ok (.invokespecial index, 3)) {pc' : Nat} (hpc : pc + 3 = pc') (kk : ja_W C cells slots lay mem n pc' ls st) : ja_W C cells slots lay mem n pc ls (.ref a :: st) := by
  subst hpc
  obtain ⟨p, l, e, R, s, m, args, below, meth, c, D, cA, B, nL, Q⟩ := C
  obtain ⟨hnl, hrm, hx, hb, hml, hown, hts, ⟨hK, hAO, hNw⟩, hlk, hB⟩ := F
  subst hnl; subst hrm
  intro H locs lsA hH hS hl
  refine W.objInit hx hb hown (hts _ hw) (hts (.instanceMethod objectInit) (by decide +kernel)) (hts (.code objectInit ⟨#[0xb1]⟩ 1 none) (by decide +kernel)) rfl (by rw [hml]; exact hl.1) rfl d hfr (by show 2 * 0 + _ + _ ≤ _; omega) ?_
  exact kk H locs lsA hH hS hl
-- arraycopy
def ja_cp (mem : ja_M) (a0 a1 sp dp k : Nat) : ja_M := fun q j => if q = a1 ∧ dp ≤ j ∧ j < dp + k then mem a0 (sp + (j - dp)) else mem q j
theorem ja_cp_o {mem : ja_M} {a0 a1 sp dp k : Nat} : ∀ q, q ≠ a1 → ja_cp mem a0 a1 sp dp k q = mem q := fun q hq => by funext j; simp [ja_cp, hq]
theorem ja_cpy {mem : ja_M} {a0 a1 sp dp k : Nat} : ja_cp mem a0 a1 sp dp k a1 = va_cpy (mem a0) (mem a1) sp dp k := by funext j; simp [ja_cp, va_cpy]
theorem ja_cpyf {α : Type} (h : Int → α) (f g : Nat → Int) (sp dp k : Nat) : (fun j => h (va_cpy f g sp dp k j)) = va_cpy (fun j => h (f j)) (fun j => h (g j)) sp dp k := by funext j; unfold va_cpy; split <;> rfl
theorem ja_two {D : va_G} {cA : Nat → ClassId} {B n : Nat} {lay : ja_Y} {mem : ja_M} {H : Heap} (hH : ja_H D cA B lay mem n H) {a0 a1 : Nat} {e0 e1 : ja_E} (h0 : lay a0 = some e0) (h1 : lay a1 = some e1) : va_P D vwCl [(a0, ja_cell cA e0 (mem a0)), (a1, ja_cell cA e1 (mem a1))] H := fun q w hq => by
  match q, hq with
  | 0, hq => cases hq; exact (hH.2 a0 _ h0).2.2
  | 1, hq => cases hq; exact (hH.2 a1 _ h1).2.2
  | q + 2, hq => simp at hq
end
end
section
section
variable {C : ja_C} {own : String} {cc : ByteArray} {nl : Nat} {rm : Room} {cells slots n : Nat} {lay : ja_Y} {mem : ja_M} {pc : Nat} {ls : List (Option Value)} {st : List Value}
theorem r_copy0 (F : ja_F C own cc nl rm) {a0 a1 n0 n1 index : Nat} {r0 r1 : Nat → Option Nat} {z : Int} (hw1 : Cond.methodLink own index arraycopyName ∈ lw_tbg) (hy0 : lay a0 = some (.inr (0, n0, r0))) (hy1 : lay a1 = some (.inr (0, n1, r1))) (hz0 : 0 ≤ z) (hz1 : z ≤ n0) (hz2 : z ≤ n1) (hz3 : z < 2147483648) (hst : (st.map fun v => v.category).sum ≤ 8) (hfr : 1 ≤ rm.frames) (hlo : 40 ≤ rm.locals) (d : decode cc pc = .ok (.invokestatic index, 3)) {pc' : Nat} (hpc : pc + 3 = pc') (kk : ja_W C cells slots lay (ja_cp mem a0 a1 0 0 z.toNat) n pc' ls st) : ja_W C cells slots lay mem n pc ls (.int (ja_I z) :: .int (ja_I 0) :: .ref a1 :: .int (ja_I 0) :: .ref a0 :: st) := by
  subst hpc
  obtain ⟨p, l, e, R, s, m, args, below, meth, c, D, cA, B, nL, Q⟩ := C
  obtain ⟨hnl, hrm, hx, hb, hml, hown, hts, ⟨hK, hAO, hNw⟩, hlk, hB⟩ := F
  subst hnl; subst hrm
  intro H locs lsA hH hS hl T hT X
  have hzi : ja_in z := ⟨by omega, by omega⟩
  have hzc := ja_clamp hzi
  have hnw : nativeFrameWords "java/lang/System" "arraycopy" 5 + 11 ≤ 32 := by decide +kernel
  have h0c : (ja_I 0).toNatClampNeg = 0 := ja_clamp ja_in0
  have h0t : (ja_I 0).toInt = 0 := ja_toInt ja_in0
  obtain ⟨hBa, han, hc1⟩ := hH.2 a1 _ hy1
  have hc0 : H[a0]? = some (vp_cell (cA 0) (n0, .inl (fun j => ja_I (mem a0 j)))) := (hH.2 a0 _ hy0).2.2
  have hc1 : H[a1]? = some (vp_cell (cA 0) (n1, .inl (fun j => ja_I (mem a1 j)))) := hc1
  obtain ⟨-, k0, hk0, cm0, hkk0⟩ := (hK.2 0 _ rfl).1 n0 (fun j => .int (ja_I (mem a0 j)))
  obtain ⟨-, k1, hk1, cm1, hkk1⟩ := (hK.2 0 _ rfl).1 n1 (fun j => .int (ja_I (mem a1 j)))
  obtain ⟨vm', X', step⟩ := X.arraycopy hx hown (hts _ hw1) (hts (.native arraycopyName) (by decide +kernel)) (hts (.static arraycopyName) (by decide +kernel)) (hts (.initialized "java/lang/System") (by decide +kernel)) (src := a0) (dst := a1) (cs := vp_cell (cA 0) (n0, .inl (fun j => ja_I (mem a0 j)))) (cd := vp_cell (cA 0) (n1, .inl (fun j => ja_I (mem a1 j)))) (srcPos := ja_I 0) (destPos := ja_I 0) (n := ja_I z) (by rw [hT]; exact hc0) (by rw [hT]; exact hc1)
    (fun _ h => by cases h) (fun _ h => by cases h) (fun h => by cases h) (fun h => by cases h) hk0 hk1 hkk0 hkk1 (by simp [refKind]) (by decide) (by decide) (by rw [ja_zero, ja_lt hzi ja_in0]; omega)
    (by rw [h0t, ja_toInt hzi]; show ¬ _ > ((arrV (cA 0) n0 _).slots.size : Int); rw [arrV_size]; omega)
    (by rw [h0t, ja_toInt hzi]; show ¬ _ > ((arrV (cA 0) n1 _).slots.size : Int); rw [arrV_size]; omega)
    (fun vm₁ _ i hi => by
      rw [hzc] at hi
      have e : (vp_cell (cA 0) (n0, .inl (fun j => ja_I (mem a0 j)))).slots.getD ((ja_I 0).toNatClampNeg + i) .null = .int (ja_I (mem a0 (0 + i))) := by
        rw [h0c]
        show (arrV (cA 0) n0 (fun j => .int (ja_I (mem a0 j)))).slots.getD _ _ = _
        rw [Array.getD_eq_getD_getElem?, arrV_read _ _ (by omega)]
        rfl
      refine ⟨?_, ?_⟩
      · rw [e]
        rfl
      · rw [e]
        exact trivial)
    (g := F0 m pc lsA (.int (ja_I z) :: .int (ja_I 0) :: .ref a1 :: .int (ja_I 0) :: .ref a0 :: st)) rfl (by rw [hml]; exact hl.1) (rest := st) rfl (by rw [hb]; exact d) hfr (by show 2 * 0 + _ + _ ≤ _; omega)
  have e1 : copied (vp_cell (cA 0) (n0, .inl (fun j => ja_I (mem a0 j)))) (vp_cell (cA 0) (n1, .inl (fun j => ja_I (mem a1 j)))) (ja_I 0) (ja_I 0) (ja_I z) = vp_cell (cA 0) (n1, .inl (fun j => ja_I (ja_cp mem a0 a1 0 0 z.toNat a1 j))) := by
    have := va_copied (n0 := n0) (n1 := n1) (fun z => Value.int z) (cA 0) (cA 0) (fun j => ja_I (mem a0 j)) (fun j => ja_I (mem a1 j)) (sp := (ja_I 0).toNatClampNeg) (dp := (ja_I 0).toNatClampNeg) (n := (ja_I z).toNatClampNeg) (by rw [h0c, hzc]; omega)
    rw [ja_cpy, ja_cpyf ja_I]
    rw [h0c, hzc] at this
    refine Eq.trans ?_ this
    show copied _ _ _ _ _ = _
    unfold copied
    rw [h0c, hzc]
    rfl
  rw [e1] at X' step
  have hla : a1 < H.size := (Array.getElem?_eq_some_iff.mp hc1).1
  generalize hcell : vp_cell (cA 0) (n1, .inl (fun j => ja_I (ja_cp mem a0 a1 0 0 z.toNat a1 j))) = newc at X' step
  have hheap : ((T.setVm vm').setCell a1 newc).heap = H.setIfInBounds a1 newc := by rw [← hT]; rfl
  have oq : ∀ q : Nat, q ≠ a1 → (H.setIfInBounds a1 newc)[q]? = H[q]? := fun q hq => by simp [Array.getElem?_setIfInBounds, Ne.symm hq]
  have hself : (H.setIfInBounds a1 newc)[a1]? = some newc := by simp [Array.getElem?_setIfInBounds, hla]
  obtain ⟨t, a2, b1⟩ := kk (H.setIfInBounds a1 newc) _ lsA (hH.upd (a := a1) (e' := .inr (0, n1, r1)) (by simp) oq ⟨hBa, han⟩ (show (H.setIfInBounds a1 newc)[a1]? = some (vp_cell (cA 0) (n1, .inl (fun j => ja_I (ja_cp mem a0 a1 0 0 z.toNat a1 j)))) by rw [hself, hcell]) (ja_same hy1) ja_cp_o) ⟨by simp; exact hS.1, fun q g1 g2 => by
      rw [oq q (fun e => g2 (by rw [e]; exact hBa))]
      exact hS.2.1 q g1 g2, fun q hq => by
      rcases List.mem_append.mp hq with h | h
      · exact hS.2.2 q h
      · obtain ⟨z, -, hz⟩ := List.mem_map.mp h
        rw [← hz]
        exact hBa⟩ hl _ hheap X'
  exact ⟨t, step t a2, b1⟩
theorem r_copy1 (F : ja_F C own cc nl rm) {a0 a1 n0 n1 index : Nat} {r0 r1 : Nat → Option Nat} {z : Int} (hw1 : Cond.methodLink own index arraycopyName ∈ lw_tbg) (hy0 : lay a0 = some (.inr (1, n0, r0))) (hy1 : lay a1 = some (.inr (1, n1, r1))) (hz0 : 0 ≤ z) (hz1 : z ≤ n0) (hz2 : z ≤ n1) (hz3 : z < 2147483648) (hst : (st.map fun v => v.category).sum ≤ 8) (hfr : 1 ≤ rm.frames) (hlo : 40 ≤ rm.locals) (d : decode cc pc = .ok (.invokestatic index, 3)) {pc' : Nat} (hpc : pc + 3 = pc') (kk : ja_W C cells slots lay (ja_cp mem a0 a1 0 0 z.toNat) n pc' ls st) : ja_W C cells slots lay mem n pc ls (.int (ja_I z) :: .int (ja_I 0) :: .ref a1 :: .int (ja_I 0) :: .ref a0 :: st) := by
  subst hpc
  obtain ⟨p, l, e, R, s, m, args, below, meth, c, D, cA, B, nL, Q⟩ := C
  obtain ⟨hnl, hrm, hx, hb, hml, hown, hts, ⟨hK, hAO, hNw⟩, hlk, hB⟩ := F
  subst hnl; subst hrm
  intro H locs lsA hH hS hl T hT X
  have hzi : ja_in z := ⟨by omega, by omega⟩
  have hzc := ja_clamp hzi
  have hnw : nativeFrameWords "java/lang/System" "arraycopy" 5 + 11 ≤ 32 := by decide +kernel
  have h0c : (ja_I 0).toNatClampNeg = 0 := ja_clamp ja_in0
  have h0t : (ja_I 0).toInt = 0 := ja_toInt ja_in0
  obtain ⟨hBa, han, hc1⟩ := hH.2 a1 _ hy1
  have hc0 : H[a0]? = some (vp_cell (cA 1) (n0, .inr (.inl (fun j => ja_L (mem a0 j))))) := (hH.2 a0 _ hy0).2.2
  have hc1 : H[a1]? = some (vp_cell (cA 1) (n1, .inr (.inl (fun j => ja_L (mem a1 j))))) := hc1
  obtain ⟨-, k0, hk0, cm0, hkk0⟩ := (hK.2 1 _ rfl).1 n0 (fun j => .long (ja_L (mem a0 j)))
  obtain ⟨-, k1, hk1, cm1, hkk1⟩ := (hK.2 1 _ rfl).1 n1 (fun j => .long (ja_L (mem a1 j)))
  obtain ⟨vm', X', step⟩ := X.arraycopy hx hown (hts _ hw1) (hts (.native arraycopyName) (by decide +kernel)) (hts (.static arraycopyName) (by decide +kernel)) (hts (.initialized "java/lang/System") (by decide +kernel)) (src := a0) (dst := a1) (cs := vp_cell (cA 1) (n0, .inr (.inl (fun j => ja_L (mem a0 j))))) (cd := vp_cell (cA 1) (n1, .inr (.inl (fun j => ja_L (mem a1 j))))) (srcPos := ja_I 0) (destPos := ja_I 0) (n := ja_I z) (by rw [hT]; exact hc0) (by rw [hT]; exact hc1)
    (fun _ h => by cases h) (fun _ h => by cases h) (fun h => by cases h) (fun h => by cases h) hk0 hk1 hkk0 hkk1 (by simp [refKind]) (by decide) (by decide) (by rw [ja_zero, ja_lt hzi ja_in0]; omega)
    (by rw [h0t, ja_toInt hzi]; show ¬ _ > ((arrV (cA 1) n0 _).slots.size : Int); rw [arrV_size]; omega)
    (by rw [h0t, ja_toInt hzi]; show ¬ _ > ((arrV (cA 1) n1 _).slots.size : Int); rw [arrV_size]; omega)
    (fun vm₁ _ i hi => by
      rw [hzc] at hi
      have e : (vp_cell (cA 1) (n0, .inr (.inl (fun j => ja_L (mem a0 j))))).slots.getD ((ja_I 0).toNatClampNeg + i) .null = .long (ja_L (mem a0 (0 + i))) := by
        rw [h0c]
        show (arrV (cA 1) n0 (fun j => .long (ja_L (mem a0 j)))).slots.getD _ _ = _
        rw [Array.getD_eq_getD_getElem?, arrV_read _ _ (by omega)]
        rfl
      refine ⟨?_, ?_⟩
      · rw [e]
        rfl
      · rw [e]
        exact trivial)
    (g := F0 m pc lsA (.int (ja_I z) :: .int (ja_I 0) :: .ref a1 :: .int (ja_I 0) :: .ref a0 :: st)) rfl (by rw [hml]; exact hl.1) (rest := st) rfl (by rw [hb]; exact d) hfr (by show 2 * 0 + _ + _ ≤ _; omega)
  have e1 : copied (vp_cell (cA 1) (n0, .inr (.inl (fun j => ja_L (mem a0 j))))) (vp_cell (cA 1) (n1, .inr (.inl (fun j => ja_L (mem a1 j))))) (ja_I 0) (ja_I 0) (ja_I z) = vp_cell (cA 1) (n1, .inr (.inl (fun j => ja_L (ja_cp mem a0 a1 0 0 z.toNat a1 j)))) := by
    have := va_copied (n0 := n0) (n1 := n1) (fun z => Value.long z) (cA 1) (cA 1) (fun j => ja_L (mem a0 j)) (fun j => ja_L (mem a1 j)) (sp := (ja_I 0).toNatClampNeg) (dp := (ja_I 0).toNatClampNeg) (n := (ja_I z).toNatClampNeg) (by rw [h0c, hzc]; omega)
    rw [ja_cpy, ja_cpyf ja_L]
    rw [h0c, hzc] at this
    refine Eq.trans ?_ this
    show copied _ _ _ _ _ = _
    unfold copied
    rw [h0c, hzc]
    rfl
  rw [e1] at X' step
  have hla : a1 < H.size := (Array.getElem?_eq_some_iff.mp hc1).1
  generalize hcell : vp_cell (cA 1) (n1, .inr (.inl (fun j => ja_L (ja_cp mem a0 a1 0 0 z.toNat a1 j)))) = newc at X' step
  have hheap : ((T.setVm vm').setCell a1 newc).heap = H.setIfInBounds a1 newc := by rw [← hT]; rfl
  have oq : ∀ q : Nat, q ≠ a1 → (H.setIfInBounds a1 newc)[q]? = H[q]? := fun q hq => by simp [Array.getElem?_setIfInBounds, Ne.symm hq]
  have hself : (H.setIfInBounds a1 newc)[a1]? = some newc := by simp [Array.getElem?_setIfInBounds, hla]
  obtain ⟨t, a2, b1⟩ := kk (H.setIfInBounds a1 newc) _ lsA (hH.upd (a := a1) (e' := .inr (1, n1, r1)) (by simp) oq ⟨hBa, han⟩ (show (H.setIfInBounds a1 newc)[a1]? = some (vp_cell (cA 1) (n1, .inr (.inl (fun j => ja_L (ja_cp mem a0 a1 0 0 z.toNat a1 j))))) by rw [hself, hcell]) (ja_same hy1) ja_cp_o) ⟨by simp; exact hS.1, fun q g1 g2 => by
      rw [oq q (fun e => g2 (by rw [e]; exact hBa))]
      exact hS.2.1 q g1 g2, fun q hq => by
      rcases List.mem_append.mp hq with h | h
      · exact hS.2.2 q h
      · obtain ⟨z, -, hz⟩ := List.mem_map.mp h
        rw [← hz]
        exact hBa⟩ hl _ hheap X'
  exact ⟨t, step t a2, b1⟩
end
end
section
-- contracts
abbrev ja_P : Type := Option Value → ja_Y → ja_M → Nat → Prop
def ja_Qc (B : Nat) (D : va_G) (cA : Nat → ClassId) (post : ja_P) : Array Value → State → Outcome → State → Prop := fun _ st o t => (∃ (v : Option Value) (lay' : ja_Y) (mem' : ja_M) (n' : Nat), o = .returned v ∧ post v lay' mem' n' ∧ ja_H D cA B lay' mem' n' t.heap) ∧ va_F (fun q => B ≤ q) st t
def ja_Pc (B : Nat) (D : va_G) (cA : Nat → ClassId) (av : List Value) (lay : ja_Y) (mem : ja_M) (n : Nat) : Array Value → State → Prop := va_Pc av (fun U => ja_H D cA B lay mem n U.heap ∧ ja_K D cA U ∧ B ≤ U.heap.size)
def ja_ws (y : MethodName) (cc : ByteArray) (nL : Nat) (ret : Option FieldType) : List Cond := Cond.code y cc nL ret :: lw_tbg
/-- the contract of a method: its room, its arguments, the world at its start, what holds at its end -/
def ja_Mt (l : Launch) (D : va_G) (cA : Nat → ClassId) (B : Nat) (y : MethodName) (cc : ByteArray) (nL : Nat) (ret : Option FieldType) (rm : Room) (av : List Value) (lay : ja_Y) (mem : ja_M) (n : Nat) (post : ja_P) : Prop := Met l y (ja_ws y cc nL ret) rm (ja_Pc B D cA av lay mem n) (ja_Qc B D cA post) rm.cells rm.slots (fun q => B ≤ q)
/-- what a walk's end must be -/
def ja_R (C : ja_C) (ret : Option FieldType) (rm : Room) (post : ja_P) : Prop := match C with
  | (p, l, e, R, s, m, args, below, meth, c, D, cA, B, nL, Q) => meth.sig.returnType = ret ∧ Q = MQ below (ja_Qc B D cA post) args s rm.cells rm.slots (fun q => B ≤ q)
/-- the parts of a walk that its calls speak of -/
def ja_G (C : ja_C) (l0 : Launch) (D0 : va_G) (cA0 : Nat → ClassId) (B0 : Nat) : Prop := match C with
  | (p, l, e, R, s, m, args, below, meth, c, D, cA, B, nL, Q) => l = l0 ∧ D = D0 ∧ cA = cA0 ∧ B = B0
theorem ja_enter {l : Launch} {D : va_G} {cA : Nat → ClassId} {B : Nat} {y : MethodName} {cc : ByteArray} {nL : Nat} {ret : Option FieldType} {rm : Room} {av : List Value} {lay : ja_Y} {mem : ja_M} {n : Nat} {post : ja_P} (ls : List (Option Value)) (hy : plainName y.cls = true) (hlen : (lg_sl av).length ≤ nL) (hls : ∀ q ∈ ja_al 0 ls, q ∈ lv_args 0 av)
    (body : ∀ C : ja_C, ja_F C y.cls cc nL rm → ja_R C ret rm post → ja_G C l D cA B → C.2.2.2.2.2.2.2.2.1.name = y.name → ja_W C 0 0 lay mem n 0 ls []) : ja_Mt l D cA B y cc nL ret rm av lay mem n post := by
  refine Met.ofW (cc := cc) (maxL := nL) (ret := ret) hy rfl ?_
  intro p e s m args below meth c s₁ Bd hml hv
  obtain ⟨rfl, hH, hK, hB⟩ := hv
  have hx := Bd.exec
  have hb := Bd.bytes
  have hr := Bd.returns
  have hts0 := atoms_spec (ws := ja_ws y cc nL ret) Bd.pre
  have hts : ∀ w ∈ lw_tbg, w.before av.toArray s = true := fun w hw => hts0 w (List.mem_cons_of_mem _ hw)
  have hown : s.vm.findClass y.cls = some m.cls := findClass_of_methodNamed Bd.named
  have hlocks := Bd.notSynchronized
  have hname : meth.name = y.name := (name_of_methodNamed Bd.named Bd.method).1
  have hl := lv_entry av hlen
  rw [lg_entry_eq]
  generalize (lg_sl av ++ List.replicate (nL - (lg_sl av).length) Slot.unset).toArray = lsA at hl ⊢
  have h := body (p, l, e, rm, s, m, av.toArray, below, meth, c, D, cA, B, nL, MQ below (ja_Qc B D cA post) av.toArray s rm.cells rm.slots (fun q => B ≤ q)) ⟨rfl, rfl, hx, hb, hml, hown, hts, hK, hlocks, hB⟩ ⟨hr, rfl⟩ ⟨rfl, rfl, rfl, rfl⟩ hname
  exact h s.heap [] lsA hH va_S.rf (ja_has_sub hl hls)
theorem lw_good : lw_tbg.all goodWord = true := List.all_eq_true.mpr fun w hw => (List.mem_filter.mp hw).2
theorem ja_goodIn {ws : List Cond} (h : ∀ w ∈ ws, w ∈ lw_tbg) : GoodIn lw_tbg ws := fun w hw => ⟨h w hw, good_of_word (List.all_eq_true.mp lw_good w (h w hw))⟩
/-- a call's words: the link, the callee's code -/
def ja_Cv (own : String) (index : Nat) (y : MethodName) (cc : ByteArray) (nL : Nat) (ret : Option FieldType) (na : Nat) : Prop := Cond.methodLink own index y ∈ lw_tbg ∧ Cond.instanceMethod y ∈ lw_tbg ∧ Cond.selects y.cls y y ∈ lw_tbg ∧ Cond.initialized y.cls ∈ lw_tbg ∧ Cond.code y cc nL ret ∈ lw_tbg ∧ y.cls ≠ "java/lang/invoke/MethodHandle" ∧ y.cls ≠ "java/lang/invoke/VarHandle" ∧ (parseMethodDescriptor y.desc).map (fun d => d.parameters.length) = some na
def ja_Cs (own : String) (index : Nat) (y : MethodName) (cc : ByteArray) (nL : Nat) (ret : Option FieldType) (na : Nat) : Prop := Cond.methodLink own index y ∈ lw_tbg ∧ Cond.static y ∈ lw_tbg ∧ Cond.initialized y.cls ∈ lw_tbg ∧ Cond.code y cc nL ret ∈ lw_tbg ∧ y.cls ≠ "java/lang/invoke/MethodHandle" ∧ y.cls ≠ "java/lang/invoke/VarHandle" ∧ (parseMethodDescriptor y.desc).map (fun d => d.parameters.length) = some na
def ja_Ci (own : String) (index : Nat) (y : MethodName) (cc : ByteArray) (nL : Nat) (na : Nat) : Prop := Cond.methodLink own index y ∈ lw_tbg ∧ Cond.instanceMethod y ∈ lw_tbg ∧ Cond.initialized y.cls ∈ lw_tbg ∧ Cond.code y cc nL none ∈ lw_tbg ∧ y.cls ≠ "java/lang/invoke/MethodHandle" ∧ y.cls ≠ "java/lang/invoke/VarHandle" ∧ (parseMethodDescriptor y.desc).map (fun d => d.parameters.length) = some na ∧ y.name = "<init>"
def ja_CiN (own : String) (index : Nat) (y : MethodName) (cc : ByteArray) (nL : Nat) (na : Nat) : Prop := (∃ host : String, Cond.methodLinkNest own index y host ∈ lw_tbl) ∧ Cond.instanceMethod y ∈ lw_tbg ∧ Cond.initialized y.cls ∈ lw_tbg ∧ Cond.code y cc nL none ∈ lw_tbg ∧ y.cls ≠ "java/lang/invoke/MethodHandle" ∧ y.cls ≠ "java/lang/invoke/VarHandle" ∧ (parseMethodDescriptor y.desc).map (fun d => d.parameters.length) = some na ∧ y.name = "<init>"
theorem ja_blind {B : Nat} {D : va_G} {cA : Nat → ClassId} {av : List Value} {lay : ja_Y} {mem : ja_M} {n : Nat} : FrameBlind (ja_Pc B D cA av lay mem n) := fun a U g mk h => ⟨h.1, h.2.1, ja_K.call g mk a h.2.2.1, h.2.2.2⟩
theorem ja_back {p : Program} {l : Launch} {e : Env} {R : Room} {s : State} {m : MethodId} {args : Array Value} {below : List Frame} {meth : Method} {c : Code} {H : Heap} {locs : List Loc} {cells slots mc ms pc : Nat} {Q : State → Prop} {lsA : Array Slot} {st0 rest : List Value} {a : Array Value} {B : Nat} {D : va_G} {cA : Nat → ClassId} {post : ja_P}
    (hr : va_Run p l e R s m args below meth c H locs cells slots mc ms (F0 m pc lsA st0) rest (ja_Qc B D cA post a) (fun q => B ≤ q)) (hS : va_S (fun q => B ≤ q) s.heap H locs)
    (kk : ∀ (v : Option Value) (lay' : ja_Y) (mem' : ja_M) (n' : Nat) (H1 : Heap) (locs1 : List Loc), post v lay' mem' n' → ja_H D cA B lay' mem' n' H1 → va_S (fun q => B ≤ q) s.heap H1 locs1 → W p l e R s m args below meth c H1 locs1 (cells + mc) (slots + ms) Q (F0 m (pc + 3) lsA (v.toList ++ rest))) : W p l e R s m args below meth c H locs cells slots Q (F0 m pc lsA st0) := by
  intro T hT X
  obtain ⟨v, st₀, t, T', L, h0, X', hL, e1, e2, ⟨⟨v', lay', mem', n', hv, hp, hH⟩, hz, hk⟩, st⟩ := hr T hT X
  cases hv
  rw [h0] at hz hk
  obtain ⟨t2, a1, b1⟩ := kk v lay' mem' n' T'.heap (locs ++ L) hp (by rw [e1]; exact hH)
    ⟨Nat.le_trans hS.1 (by rw [e1]; exact hz), fun q h1 h2 => by rw [e1, hk q (Nat.lt_of_lt_of_le h1 hS.1) h2]; exact hS.2.1 q h1 h2, fun q hq => by
      rcases List.mem_append.mp hq with h | h
      · exact hS.2.2 q h
      · exact hL q h⟩ T' rfl X'
  exact ⟨t2, st t2 a1, b1⟩
section
variable {C : ja_C} {own : String} {cc : ByteArray} {nl : Nat} {rm : Room} {cells slots n : Nat} {lay : ja_Y} {mem : ja_M} {pc : Nat} {ls : List (Option Value)} {st : List Value}
theorem r_callV (F : ja_F C own cc nl rm) {l0 : Launch} {D0 : va_G} {cA0 : Nat → ClassId} {B0 : Nat} (G : ja_G C l0 D0 cA0 B0) {y : MethodName} {cc' : ByteArray} {nL' : Nat} {ret' : Option FieldType} {rm' : Room} {As : List Value} {a index ci na : Nat} {ds : List (Option Value)} {post : ja_P} (hM : ja_Mt l0 D0 cA0 B0 y cc' nL' ret' rm' (.ref a :: As) lay mem n post) (f : ja_Cv own index y cc' nL' ret' na) (hna : As.length = na) (hy : lay a = some (.inl (ci, ds))) (hcl : vwCl[ci]?.map (·.1) = some y.cls) (hR : rm'.frames + 1 ≤ rm.frames ∧ 8 + (nL' + 11) + rm'.locals ≤ rm.locals) (hcs : cells + rm'.cells ≤ rm.cells ∧ slots + rm'.slots ≤ rm.slots) (hst : (st.map fun v => v.category).sum ≤ 8) {st0 : List Value} (he : st0 = As.reverse ++ .ref a :: st) (d : decode cc pc = .ok (.invokevirtual index, 3)) {pc' : Nat} (hpc : pc + 3 = pc')
    (kk : ∀ (v : Option Value) (lay' : ja_Y) (mem' : ja_M) (n' : Nat), post v lay' mem' n' → ja_W C (cells + rm'.cells) (slots + rm'.slots) lay' mem' n' pc' ls (v.toList ++ st)) : ja_W C cells slots lay mem n pc ls st0 := by
  subst hpc
  subst he
  obtain ⟨p, l, e, R, s, m, args, below, meth, c, D, cA, B, nL, Q⟩ := C
  obtain ⟨hnl, hrm, hx, hb, hml, hown, hts, ⟨hK, hAO, hNw⟩, hlk, hB⟩ := F
  obtain ⟨rfl, rfl, rfl, rfl⟩ := G
  subst hnl; subst hrm
  obtain ⟨f1, f2, f3, f4, f5, f6, f7, f8⟩ := f
  intro H locs lsA hH hS hl
  have hat := (hH.2 a _ hy).2.2
  have hP : va_P D vwCl [(a, .inr (ci, ja_fs 0 ds (mem a)))] H := fun q w hq => by
    cases q with
    | zero => cases hq; exact hat
    | succ q => simp at hq
  obtain ⟨r, hr1, hr2⟩ := Option.map_eq_some_iff.mp hcl
  have hrecv := va_recv hK hP hr1 (q0 := 0) rfl
  rw [hr2] at hrecv
  have hG : GoodIn lw_tbg (wsV own index y.cls y (ja_ws y cc' nL' ret')) := ja_goodIn (fun w hw => by
    rcases List.mem_append.mp hw with h | h
    · simp only [List.mem_cons, List.not_mem_nil, or_false] at h
      rcases h with rfl | rfl | rfl | rfl
      · exact f1
      · exact f2
      · exact f3
      · exact f4
    · rcases List.mem_cons.mp h with rfl | h
      · exact f5
      · exact h)
  have cw := cwV (R := R) (s := s) (args := args) (rm := rm') (mc := rm'.cells) (ms := rm'.slots) (ws' := lw_tbg) na hts hG rfl rfl rfl ⟨rfl, f6, f7, f8⟩ hR
  refine ja_back (va_runV (As := As) (rest := st) ⟨hx, hb, hml, hown, hts⟩ hM cw ⟨ja_blind, hrecv, fun U hU hW => ⟨rfl, by rw [hU]; exact hH, ja_K.warm hW ⟨hK, hAO, hNw⟩, by rw [hU]; exact Nat.le_trans hB hS.1⟩⟩ rfl hna hl.1 rfl (lv_room hst) d hcs) hS ?_
  intro v lay' mem' n' H1 locs1 hp hH1 hS1
  exact kk v lay' mem' n' hp H1 locs1 lsA hH1 hS1 hl
theorem r_callS (F : ja_F C own cc nl rm) {l0 : Launch} {D0 : va_G} {cA0 : Nat → ClassId} {B0 : Nat} (G : ja_G C l0 D0 cA0 B0) {y : MethodName} {cc' : ByteArray} {nL' : Nat} {ret' : Option FieldType} {rm' : Room} {As : List Value} {index na : Nat} {post : ja_P} (hM : ja_Mt l0 D0 cA0 B0 y cc' nL' ret' rm' As lay mem n post) (f : ja_Cs own index y cc' nL' ret' na) (hna : As.length = na) (hR : rm'.frames + 1 ≤ rm.frames ∧ 8 + (nL' + 11) + rm'.locals ≤ rm.locals) (hcs : cells + rm'.cells ≤ rm.cells ∧ slots + rm'.slots ≤ rm.slots) (hst : (st.map fun v => v.category).sum ≤ 8) {st0 : List Value} (he : st0 = As.reverse ++ st) (d : decode cc pc = .ok (.invokestatic index, 3)) {pc' : Nat} (hpc : pc + 3 = pc')
    (kk : ∀ (v : Option Value) (lay' : ja_Y) (mem' : ja_M) (n' : Nat), post v lay' mem' n' → ja_W C (cells + rm'.cells) (slots + rm'.slots) lay' mem' n' pc' ls (v.toList ++ st)) : ja_W C cells slots lay mem n pc ls st0 := by
  subst hpc
  subst he
  obtain ⟨p, l, e, R, s, m, args, below, meth, c, D, cA, B, nL, Q⟩ := C
  obtain ⟨hnl, hrm, hx, hb, hml, hown, hts, ⟨hK, hAO, hNw⟩, hlk, hB⟩ := F
  obtain ⟨rfl, rfl, rfl, rfl⟩ := G
  subst hnl; subst hrm
  obtain ⟨f1, f2, f4, f5, f6, f7, f8⟩ := f
  intro H locs lsA hH hS hl
  have hG : GoodIn lw_tbg (va_wsS own index y (ja_ws y cc' nL' ret')) := ja_goodIn (fun w hw => by
    rcases List.mem_append.mp hw with h | h
    · simp only [List.mem_cons, List.not_mem_nil, or_false] at h
      rcases h with rfl | rfl | rfl
      · exact f1
      · exact f2
      · exact f4
    · rcases List.mem_cons.mp h with rfl | h
      · exact f5
      · exact h)
  have cw := va_cwS (R := R) (s := s) (args := args) (rm := rm') (mc := rm'.cells) (ms := rm'.slots) (ws' := lw_tbg) na hts hG rfl rfl rfl ⟨f6, f7, f8⟩ hR
  refine ja_back (va_runS (As := As) (rest := st) ⟨hx, hb, hml, hown, hts⟩ hM cw ⟨ja_blind, fun U hU hW => ⟨rfl, by rw [hU]; exact hH, ja_K.warm hW ⟨hK, hAO, hNw⟩, by rw [hU]; exact Nat.le_trans hB hS.1⟩⟩ rfl hna hl.1 rfl (lv_room hst) d hcs) hS ?_
  intro v lay' mem' n' H1 locs1 hp hH1 hS1
  exact kk v lay' mem' n' hp H1 locs1 lsA hH1 hS1 hl
theorem r_callI (F : ja_F C own cc nl rm) {l0 : Launch} {D0 : va_G} {cA0 : Nat → ClassId} {B0 : Nat} (G : ja_G C l0 D0 cA0 B0) {y : MethodName} {cc' : ByteArray} {nL' : Nat} {rm' : Room} {As : List Value} {a index na : Nat} {post : ja_P} (hM : ja_Mt l0 D0 cA0 B0 y cc' nL' none rm' (.ref a :: As) lay mem n post) (f : ja_Ci own index y cc' nL' na) (hna : As.length = na) (hR : rm'.frames + 1 ≤ rm.frames ∧ 8 + (nL' + 11) + rm'.locals ≤ rm.locals) (hcs : cells + rm'.cells ≤ rm.cells ∧ slots + rm'.slots ≤ rm.slots) (hst : (st.map fun v => v.category).sum ≤ 8) {st0 : List Value} (he : st0 = As.reverse ++ .ref a :: st) (d : decode cc pc = .ok (.invokespecial index, 3)) {pc' : Nat} (hpc : pc + 3 = pc')
    (kk : ∀ (v : Option Value) (lay' : ja_Y) (mem' : ja_M) (n' : Nat), post v lay' mem' n' → ja_W C (cells + rm'.cells) (slots + rm'.slots) lay' mem' n' pc' ls (v.toList ++ st)) : ja_W C cells slots lay mem n pc ls st0 := by
  subst hpc
  subst he
  obtain ⟨p, l, e, R, s, m, args, below, meth, c, D, cA, B, nL, Q⟩ := C
  obtain ⟨hnl, hrm, hx, hb, hml, hown, hts, ⟨hK, hAO, hNw⟩, hlk, hB⟩ := F
  obtain ⟨rfl, rfl, rfl, rfl⟩ := G
  subst hnl; subst hrm
  obtain ⟨f1, f2, f4, f5, f6, f7, f8, f9⟩ := f
  intro H locs lsA hH hS hl
  have hG : GoodIn lw_tbg (ja_ws y cc' nL' none) := ja_goodIn (fun w hw => by
    rcases List.mem_cons.mp hw with rfl | h
    · exact f5
    · exact h)
  have cw := cwI (own := own) (index := index) (R := R) (s := s) (args := args) (rm := rm') (mc := rm'.cells) (ms := rm'.slots) (ws' := lw_tbg) na hts hG rfl rfl rfl (hts _ f4) (hts _ f1) (hts _ f2) f9 ⟨f6, f7, f8⟩ hR
  refine ja_back (va_runI (As := As) (rest := st) ⟨hx, hb, hml, hown, hts⟩ hM cw ⟨ja_blind, fun U hU hW => ⟨rfl, by rw [hU]; exact hH, ja_K.warm hW ⟨hK, hAO, hNw⟩, by rw [hU]; exact Nat.le_trans hB hS.1⟩⟩ rfl hna hl.1 rfl (lv_room hst) d hcs) hS ?_
  intro v lay' mem' n' H1 locs1 hp hH1 hS1
  exact kk v lay' mem' n' hp H1 locs1 lsA hH1 hS1 hl
theorem r_callIN (F : ja_F C own cc nl rm) {l0 : Launch} {D0 : va_G} {cA0 : Nat → ClassId} {B0 : Nat} (G : ja_G C l0 D0 cA0 B0) {y : MethodName} {cc' : ByteArray} {nL' : Nat} {rm' : Room} {As : List Value} {a index na : Nat} {post : ja_P} (hM : ja_Mt l0 D0 cA0 B0 y cc' nL' none rm' (.ref a :: As) lay mem n post) (f : ja_CiN own index y cc' nL' na) (hna : As.length = na) (hR : rm'.frames + 1 ≤ rm.frames ∧ 8 + (nL' + 11) + rm'.locals ≤ rm.locals) (hcs : cells + rm'.cells ≤ rm.cells ∧ slots + rm'.slots ≤ rm.slots) (hst : (st.map fun v => v.category).sum ≤ 8) {st0 : List Value} (he : st0 = As.reverse ++ .ref a :: st) (d : decode cc pc = .ok (.invokespecial index, 3)) {pc' : Nat} (hpc : pc + 3 = pc')
    (kk : ∀ (v : Option Value) (lay' : ja_Y) (mem' : ja_M) (n' : Nat), post v lay' mem' n' → ja_W C (cells + rm'.cells) (slots + rm'.slots) lay' mem' n' pc' ls (v.toList ++ st)) : ja_W C cells slots lay mem n pc ls st0 := by
  subst hpc
  subst he
  obtain ⟨p, l, e, R, s, m, args, below, meth, c, D, cA, B, nL, Q⟩ := C
  obtain ⟨hnl, hrm, hx, hb, hml, hown, hts, ⟨hK, hAO, hNw⟩, hlk, hB⟩ := F
  obtain ⟨rfl, rfl, rfl, rfl⟩ := G
  subst hnl; subst hrm
  obtain ⟨⟨host, f1⟩, f2, f4, f5, f6, f7, f8, f9⟩ := f
  intro H locs lsA hH hS hl
  have hG : GoodIn lw_tbg (ja_ws y cc' nL' none) := ja_goodIn (fun w hw => by
    rcases List.mem_cons.mp hw with rfl | h
    · exact f5
    · exact h)
  have cw := va_cnB (own := own) (host := host) (index := index) (R := R) (s := s) (args := args) (rm := rm') (mc := rm'.cells) (ms := rm'.slots) (ws' := lw_tbg) na hts hG rfl rfl rfl (hNw _ f1 rfl) (hts _ f4) ⟨f6, f7, f8⟩ hR
  refine ja_back (va_runIN (As := As) (rest := st) ⟨hx, hb, hml, hown, hts⟩ hM ⟨cw, f9, hts _ f2⟩ ⟨ja_blind, fun U hU hW => ⟨rfl, by rw [hU]; exact hH, ja_K.warm hW ⟨hK, hAO, hNw⟩, by rw [hU]; exact Nat.le_trans hB hS.1⟩⟩ rfl hna hl.1 rfl (lv_room hst) d hcs) hS ?_
  intro v lay' mem' n' H1 locs1 hp hH1 hS1
  exact kk v lay' mem' n' hp H1 locs1 lsA hH1 hS1 hl
-- Math
theorem ja_ite {a b : Int} {c : Prop} [Decidable c] : (if c then ja_I a else ja_I b) = ja_I (if c then a else b) := by split <;> rfl
theorem r_mmax (F : ja_F C own cc nl rm) {a b : Int} {index : Nat} (ha : ja_in a) (hb1 : ja_in b) (hw : Cond.methodLink own index Lib.Math.max.name ∈ lw_tbg) (hst : (st.map fun v => v.category).sum ≤ 8) (hfr : 1 ≤ rm.frames) (hlo : 21 ≤ rm.locals) (hcs : cells ≤ rm.cells ∧ slots ≤ rm.slots) (d : decode cc pc = .ok (.invokestatic index, 3)) {pc' : Nat} (hpc : pc + 3 = pc') (k : ja_W C cells slots lay mem n pc' ls (.int (ja_I (if a < b then b else a)) :: st)) : ja_W C cells slots lay mem n pc ls (.int (ja_I b) :: .int (ja_I a) :: st) := by
  subst hpc
  obtain ⟨p, l, e, R, s, m, args, below, meth, c, D, cA, B, nL, Q⟩ := C
  obtain ⟨hnl, hrm, hx, hb, hml, hown, hts, ⟨hK, hAO, hNw⟩, hlk, hB⟩ := F
  subst hnl; subst hrm
  intro H locs lsA hH hS hl
  refine va_mmax hx hb (by rw [hml]; exact hl.1.symm) hown (hts _ hw) (hts _ (by decide +kernel)) (hts _ (by decide +kernel)) (hts _ (by decide +kernel)) hfr (by omega) hcs.1 hcs.2 d ?_
  have h := k H locs lsA hH hS hl
  by_cases hc : a < b
  · rw [if_pos ((ja_lt ha hb1).mpr hc)]
    rw [if_pos hc] at h
    exact h
  · rw [if_neg (fun q => hc ((ja_lt ha hb1).mp q))]
    rw [if_neg hc] at h
    exact h
theorem r_mmin (F : ja_F C own cc nl rm) {a b : Int} {index : Nat} (ha : ja_in a) (hb1 : ja_in b) (hw : Cond.methodLink own index Lib.Math.min.name ∈ lw_tbg) (hst : (st.map fun v => v.category).sum ≤ 8) (hfr : 1 ≤ rm.frames) (hlo : 21 ≤ rm.locals) (hcs : cells ≤ rm.cells ∧ slots ≤ rm.slots) (d : decode cc pc = .ok (.invokestatic index, 3)) {pc' : Nat} (hpc : pc + 3 = pc') (k : ja_W C cells slots lay mem n pc' ls (.int (ja_I (if b < a then b else a)) :: st)) : ja_W C cells slots lay mem n pc ls (.int (ja_I b) :: .int (ja_I a) :: st) := by
  subst hpc
  obtain ⟨p, l, e, R, s, m, args, below, meth, c, D, cA, B, nL, Q⟩ := C
  obtain ⟨hnl, hrm, hx, hb, hml, hown, hts, ⟨hK, hAO, hNw⟩, hlk, hB⟩ := F
  subst hnl; subst hrm
  intro H locs lsA hH hS hl
  refine va_mmin hx hb (by rw [hml]; exact hl.1.symm) hown (hts _ hw) (hts _ (by decide +kernel)) (hts _ (by decide +kernel)) (hts _ (by decide +kernel)) hfr (by omega) hcs.1 hcs.2 d ?_
  have h := k H locs lsA hH hS hl
  by_cases hc : b < a
  · rw [if_pos ((ja_lt hb1 ha).mpr hc)]
    rw [if_pos hc] at h
    exact h
  · rw [if_neg (fun q => hc ((ja_lt hb1 ha).mp q))]
    rw [if_neg hc] at h
    exact h
theorem r_mabs (F : ja_F C own cc nl rm) {a : Int} {index : Nat} (ha : ja_in a) (hw : Cond.methodLink own index Lib.Math.abs.name ∈ lw_tbg) (hst : (st.map fun v => v.category).sum ≤ 8) (hfr : 1 ≤ rm.frames) (hlo : 21 ≤ rm.locals) (hcs : cells ≤ rm.cells ∧ slots ≤ rm.slots) (d : decode cc pc = .ok (.invokestatic index, 3)) {pc' : Nat} (hpc : pc + 3 = pc') (k : ja_W C cells slots lay mem n pc' ls (.int (ja_I (if 0 ≤ a then a else 0 - a)) :: st)) : ja_W C cells slots lay mem n pc ls (.int (ja_I a) :: st) := by
  subst hpc
  obtain ⟨p, l, e, R, s, m, args, below, meth, c, D, cA, B, nL, Q⟩ := C
  obtain ⟨hnl, hrm, hx, hb, hml, hown, hts, ⟨hK, hAO, hNw⟩, hlk, hB⟩ := F
  subst hnl; subst hrm
  intro H locs lsA hH hS hl
  refine va_mabs hx hb (by rw [hml]; exact hl.1.symm) hown (hts _ hw) (hts _ (by decide +kernel)) (hts _ (by decide +kernel)) (hts _ (by decide +kernel)) hfr (by omega) hcs.1 hcs.2 d ?_
  have h := k H locs lsA hH hS hl
  by_cases hc : 0 ≤ a
  · rw [if_pos (show (0 : Int32) ≤ ja_I a from (ja_le ja_in0 ha).mpr hc)]
    rw [if_pos hc] at h
    exact h
  · rw [if_neg (show ¬ (0 : Int32) ≤ ja_I a from fun q => hc ((ja_le ja_in0 ha).mp q)), ja_zero, ja_sub]
    rw [if_neg hc] at h
    exact h
-- ends
theorem r_vret (F : ja_F C own cc nl rm) {post : ja_P} (Rt : ja_R C none rm post) (d : decode cc pc = .ok (.return_, 1)) (hcs : cells ≤ rm.cells ∧ slots ≤ rm.slots) (hp : post none lay mem n) : ja_W C cells slots lay mem n pc ls [] := by
  obtain ⟨p, l, e, R, s, m, args, below, meth, c, D, cA, B, nL, Q⟩ := C
  obtain ⟨hnl, hrm, hx, hb, hml, hown, hts, ⟨hK, hAO, hNw⟩, hlk, hB⟩ := F
  obtain ⟨hr, hQ⟩ := Rt
  subst hnl; subst hrm; subst hQ
  intro H locs lsA hH hS hl
  refine W.widen hcs.1 hcs.2 ?_
  exact W.vret hx hb hr (fun t ht hW => ⟨⟨none, lay, mem, n, rfl, hp, by rw [ht]; exact hH⟩, hS.F ht⟩) hS.2.2 d hlk
theorem r_iret (F : ja_F C own cc nl rm) {post : ja_P} (Rt : ja_R C (some .int) rm post) {z : Int} (d : decode cc pc = .ok (.ireturn, 1)) (hcs : cells ≤ rm.cells ∧ slots ≤ rm.slots) (hp : post (some (.int (ja_I z))) lay mem n) : ja_W C cells slots lay mem n pc ls [.int (ja_I z)] := by
  obtain ⟨p, l, e, R, s, m, args, below, meth, c, D, cA, B, nL, Q⟩ := C
  obtain ⟨hnl, hrm, hx, hb, hml, hown, hts, ⟨hK, hAO, hNw⟩, hlk, hB⟩ := F
  obtain ⟨hr, hQ⟩ := Rt
  subst hnl; subst hrm; subst hQ
  intro H locs lsA hH hS hl
  refine W.widen hcs.1 hcs.2 ?_
  exact W.iret hx hb hr (fun t ht hW => ⟨⟨_, lay, mem, n, rfl, hp, by rw [ht]; exact hH⟩, hS.F ht⟩) hS.2.2 d hlk
theorem r_zret (F : ja_F C own cc nl rm) {post : ja_P} (Rt : ja_R C (some .boolean) rm post) {z : Int} (hz : z = 0 ∨ z = 1) (d : decode cc pc = .ok (.ireturn, 1)) (hcs : cells ≤ rm.cells ∧ slots ≤ rm.slots) (hp : post (some (.int (ja_I z))) lay mem n) : ja_W C cells slots lay mem n pc ls [.int (ja_I z)] := by
  obtain ⟨p, l, e, R, s, m, args, below, meth, c, D, cA, B, nL, Q⟩ := C
  obtain ⟨hnl, hrm, hx, hb, hml, hown, hts, ⟨hK, hAO, hNw⟩, hlk, hB⟩ := F
  obtain ⟨hr, hQ⟩ := Rt
  subst hnl; subst hrm; subst hQ
  intro H locs lsA hH hS hl
  refine W.widen hcs.1 hcs.2 ?_
  exact W.zret hx hb hr (by rcases hz with rfl | rfl <;> decide) (fun t ht hW => ⟨⟨_, lay, mem, n, rfl, hp, by rw [ht]; exact hH⟩, hS.F ht⟩) hS.2.2 d hlk
theorem r_lret (F : ja_F C own cc nl rm) {post : ja_P} (Rt : ja_R C (some .long) rm post) {z : Int64} (d : decode cc pc = .ok (.lreturn, 1)) (hcs : cells ≤ rm.cells ∧ slots ≤ rm.slots) (hp : post (some (.long z)) lay mem n) : ja_W C cells slots lay mem n pc ls [.long z] := by
  obtain ⟨p, l, e, R, s, m, args, below, meth, c, D, cA, B, nL, Q⟩ := C
  obtain ⟨hnl, hrm, hx, hb, hml, hown, hts, ⟨hK, hAO, hNw⟩, hlk, hB⟩ := F
  obtain ⟨hr, hQ⟩ := Rt
  subst hnl; subst hrm; subst hQ
  intro H locs lsA hH hS hl
  refine W.widen hcs.1 hcs.2 ?_
  exact W.lret hx hb hr (fun t ht hW => ⟨⟨_, lay, mem, n, rfl, hp, by rw [ht]; exact hH⟩, hS.F ht⟩) hS.2.2 d hlk
end
end
section
theorem tm_1 {w : Cond} (i : Nat) (h : tables_1_1[i]? = some w) (g : goodWord w = true) : w ∈ lw_tbg := List.mem_filter.mpr ⟨List.mem_append_right _ (List.mem_append_left _ (List.mem_of_getElem? h)), g⟩
theorem tm_2 {w : Cond} (i : Nat) (h : tables_1_2[i]? = some w) (g : goodWord w = true) : w ∈ lw_tbg := List.mem_filter.mpr ⟨List.mem_append_right _ (List.mem_append_right _ (List.mem_append_left _ (List.mem_of_getElem? h))), g⟩
theorem tm_3 {w : Cond} (i : Nat) (h : tables_1_3[i]? = some w) (g : goodWord w = true) : w ∈ lw_tbg := List.mem_filter.mpr ⟨List.mem_append_right _ (List.mem_append_right _ (List.mem_append_right _ (List.mem_append_left _ (List.mem_of_getElem? h)))), g⟩
theorem tm_4 {w : Cond} (i : Nat) (h : tables_1_4[i]? = some w) (g : goodWord w = true) : w ∈ lw_tbg := List.mem_filter.mpr ⟨List.mem_append_right _ (List.mem_append_right _ (List.mem_append_right _ (List.mem_append_right _ (List.mem_append_left _ (List.mem_of_getElem? h))))), g⟩
theorem tm_5 {w : Cond} (i : Nat) (h : tables_1_5[i]? = some w) (g : goodWord w = true) : w ∈ lw_tbg := List.mem_filter.mpr ⟨List.mem_append_right _ (List.mem_append_right _ (List.mem_append_right _ (List.mem_append_right _ (List.mem_append_right _ (List.mem_append_left _ (List.mem_of_getElem? h)))))), g⟩
theorem tm_6 {w : Cond} (i : Nat) (h : tables_1_6[i]? = some w) (g : goodWord w = true) : w ∈ lw_tbg := List.mem_filter.mpr ⟨List.mem_append_right _ (List.mem_append_right _ (List.mem_append_right _ (List.mem_append_right _ (List.mem_append_right _ (List.mem_append_right _ (List.mem_of_getElem? h)))))), g⟩
theorem tn_0 : True := trivial
theorem tn_1 {w : Cond} (i : Nat) (h : tables_1_1[i]? = some w) : w ∈ lw_tbl := List.mem_append_right _ (List.mem_append_left _ (List.mem_of_getElem? h))
theorem tn_2 {w : Cond} (i : Nat) (h : tables_1_2[i]? = some w) : w ∈ lw_tbl := List.mem_append_right _ (List.mem_append_right _ (List.mem_append_left _ (List.mem_of_getElem? h)))
theorem tn_3 {w : Cond} (i : Nat) (h : tables_1_3[i]? = some w) : w ∈ lw_tbl := List.mem_append_right _ (List.mem_append_right _ (List.mem_append_right _ (List.mem_append_left _ (List.mem_of_getElem? h))))
theorem tn_4 {w : Cond} (i : Nat) (h : tables_1_4[i]? = some w) : w ∈ lw_tbl := List.mem_append_right _ (List.mem_append_right _ (List.mem_append_right _ (List.mem_append_right _ (List.mem_append_left _ (List.mem_of_getElem? h)))))
theorem tn_5 {w : Cond} (i : Nat) (h : tables_1_5[i]? = some w) : w ∈ lw_tbl := List.mem_append_right _ (List.mem_append_right _ (List.mem_append_right _ (List.mem_append_right _ (List.mem_append_right _ (List.mem_append_left _ (List.mem_of_getElem? h))))))
theorem tn_6 {w : Cond} (i : Nat) (h : tables_1_6[i]? = some w) : w ∈ lw_tbl := List.mem_append_right _ (List.mem_append_right _ (List.mem_append_right _ (List.mem_append_right _ (List.mem_append_right _ (List.mem_append_right _ (List.mem_of_getElem? h))))))
theorem tm_0 {w : Cond} (i : Nat) (h : (k2_sels lw_privs)[i]? = some w) (g : goodWord w = true) : w ∈ lw_tbg := List.mem_filter.mpr ⟨List.mem_append_left _ (List.mem_of_getElem? h), g⟩
theorem u_X0 : ∀ w ∈ u_ws RX0 TX0 8, w ∈ lw_tbg := List.forall_mem_cons.mpr ⟨tm_2 42 rfl rfl, List.forall_mem_cons.mpr ⟨tm_2 44 rfl rfl, List.forall_mem_cons.mpr ⟨tm_2 46 rfl rfl, List.forall_mem_cons.mpr ⟨tm_2 48 rfl rfl, List.forall_mem_cons.mpr ⟨tm_2 50 rfl rfl, List.forall_mem_cons.mpr ⟨tm_2 52 rfl rfl, List.forall_mem_cons.mpr ⟨tm_2 54 rfl rfl, List.forall_mem_cons.mpr ⟨tm_2 56 rfl rfl, fun _ h => absurd h List.not_mem_nil⟩⟩⟩⟩⟩⟩⟩⟩
theorem u_X1 : ∀ w ∈ u_ws RX1 TX1 5, w ∈ lw_tbg := List.forall_mem_cons.mpr ⟨tm_1 218 rfl rfl, List.forall_mem_cons.mpr ⟨tm_1 220 rfl rfl, List.forall_mem_cons.mpr ⟨tm_1 222 rfl rfl, List.forall_mem_cons.mpr ⟨tm_1 224 rfl rfl, List.forall_mem_cons.mpr ⟨tm_1 226 rfl rfl, fun _ h => absurd h List.not_mem_nil⟩⟩⟩⟩⟩
theorem u_X2 : ∀ w ∈ u_ws RX2 TX2 9, w ∈ lw_tbg := List.forall_mem_cons.mpr ⟨tm_1 177 rfl rfl, List.forall_mem_cons.mpr ⟨tm_1 179 rfl rfl, List.forall_mem_cons.mpr ⟨tm_1 181 rfl rfl, List.forall_mem_cons.mpr ⟨tm_1 183 rfl rfl, List.forall_mem_cons.mpr ⟨tm_1 185 rfl rfl, List.forall_mem_cons.mpr ⟨tm_1 187 rfl rfl, List.forall_mem_cons.mpr ⟨tm_1 189 rfl rfl, List.forall_mem_cons.mpr ⟨tm_1 191 rfl rfl, List.forall_mem_cons.mpr ⟨tm_1 193 rfl rfl, fun _ h => absurd h List.not_mem_nil⟩⟩⟩⟩⟩⟩⟩⟩⟩
theorem u_X3 : ∀ w ∈ u_ws RX3 TX3 3, w ∈ lw_tbg := List.forall_mem_cons.mpr ⟨tm_1 88 rfl rfl, List.forall_mem_cons.mpr ⟨tm_1 90 rfl rfl, List.forall_mem_cons.mpr ⟨tm_1 92 rfl rfl, fun _ h => absurd h List.not_mem_nil⟩⟩⟩
theorem u_X4 : ∀ w ∈ u_ws RX4 TX4 8, w ∈ lw_tbg := List.forall_mem_cons.mpr ⟨tm_1 134 rfl rfl, List.forall_mem_cons.mpr ⟨tm_1 136 rfl rfl, List.forall_mem_cons.mpr ⟨tm_1 138 rfl rfl, List.forall_mem_cons.mpr ⟨tm_1 140 rfl rfl, List.forall_mem_cons.mpr ⟨tm_1 142 rfl rfl, List.forall_mem_cons.mpr ⟨tm_1 144 rfl rfl, List.forall_mem_cons.mpr ⟨tm_1 146 rfl rfl, List.forall_mem_cons.mpr ⟨tm_1 148 rfl rfl, fun _ h => absurd h List.not_mem_nil⟩⟩⟩⟩⟩⟩⟩⟩
theorem u_X5 : ∀ w ∈ u_ws RX5 TX5 9, w ∈ lw_tbg := List.forall_mem_cons.mpr ⟨tm_2 7 rfl rfl, List.forall_mem_cons.mpr ⟨tm_2 9 rfl rfl, List.forall_mem_cons.mpr ⟨tm_2 11 rfl rfl, List.forall_mem_cons.mpr ⟨tm_2 13 rfl rfl, List.forall_mem_cons.mpr ⟨tm_2 15 rfl rfl, List.forall_mem_cons.mpr ⟨tm_2 17 rfl rfl, List.forall_mem_cons.mpr ⟨tm_2 19 rfl rfl, List.forall_mem_cons.mpr ⟨tm_2 21 rfl rfl, List.forall_mem_cons.mpr ⟨tm_2 23 rfl rfl, fun _ h => absurd h List.not_mem_nil⟩⟩⟩⟩⟩⟩⟩⟩⟩
theorem u_X6 : ∀ w ∈ u_ws RX6 TX6 9, w ∈ lw_tbg := List.forall_mem_cons.mpr ⟨tm_1 60 rfl rfl, List.forall_mem_cons.mpr ⟨tm_1 62 rfl rfl, List.forall_mem_cons.mpr ⟨tm_1 64 rfl rfl, List.forall_mem_cons.mpr ⟨tm_1 66 rfl rfl, List.forall_mem_cons.mpr ⟨tm_1 68 rfl rfl, List.forall_mem_cons.mpr ⟨tm_1 70 rfl rfl, List.forall_mem_cons.mpr ⟨tm_1 72 rfl rfl, List.forall_mem_cons.mpr ⟨tm_1 74 rfl rfl, List.forall_mem_cons.mpr ⟨tm_1 76 rfl rfl, fun _ h => absurd h List.not_mem_nil⟩⟩⟩⟩⟩⟩⟩⟩⟩
theorem u_X7 : ∀ w ∈ u_ws RX7 TX7 4, w ∈ lw_tbg := List.forall_mem_cons.mpr ⟨tm_1 108 rfl rfl, List.forall_mem_cons.mpr ⟨tm_1 110 rfl rfl, List.forall_mem_cons.mpr ⟨tm_1 112 rfl rfl, List.forall_mem_cons.mpr ⟨tm_1 114 rfl rfl, fun _ h => absurd h List.not_mem_nil⟩⟩⟩⟩
theorem u_X8 : ∀ w ∈ u_ws RX8 TX8 5, w ∈ lw_tbg := List.forall_mem_cons.mpr ⟨tm_2 66 rfl rfl, List.forall_mem_cons.mpr ⟨tm_2 68 rfl rfl, List.forall_mem_cons.mpr ⟨tm_2 70 rfl rfl, List.forall_mem_cons.mpr ⟨tm_2 72 rfl rfl, List.forall_mem_cons.mpr ⟨tm_2 74 rfl rfl, fun _ h => absurd h List.not_mem_nil⟩⟩⟩⟩⟩
theorem u_X9 : ∀ w ∈ u_ws RX9 TX9 11, w ∈ lw_tbg := List.forall_mem_cons.mpr ⟨tm_4 120 rfl rfl, List.forall_mem_cons.mpr ⟨tm_4 122 rfl rfl, List.forall_mem_cons.mpr ⟨tm_4 124 rfl rfl, List.forall_mem_cons.mpr ⟨tm_4 126 rfl rfl, List.forall_mem_cons.mpr ⟨tm_4 128 rfl rfl, List.forall_mem_cons.mpr ⟨tm_4 130 rfl rfl, List.forall_mem_cons.mpr ⟨tm_4 132 rfl rfl, List.forall_mem_cons.mpr ⟨tm_4 134 rfl rfl, List.forall_mem_cons.mpr ⟨tm_4 136 rfl rfl, List.forall_mem_cons.mpr ⟨tm_4 138 rfl rfl, List.forall_mem_cons.mpr ⟨tm_4 140 rfl rfl, fun _ h => absurd h List.not_mem_nil⟩⟩⟩⟩⟩⟩⟩⟩⟩⟩⟩
theorem a_int : Cond.arrayClass .int ∈ lw_tbg := tm_1 96 rfl rfl
theorem a_long : Cond.arrayClass .long ∈ lw_tbg := tm_1 95 rfl rfl
theorem a_boolean : Cond.arrayClass .boolean ∈ lw_tbg := tm_4 143 rfl rfl
theorem l_J13_314 : Cond.constantLong RJ13 314 (6148914691236517205) ∈ lw_tbg := tm_2 172 rfl rfl
theorem l_J13_316 : Cond.constantLong RJ13 316 (3689348814741910323) ∈ lw_tbg := tm_2 173 rfl rfl
theorem l_J13_318 : Cond.constantLong RJ13 318 (1085102592571150095) ∈ lw_tbg := tm_2 174 rfl rfl
theorem n_L_7 : ja_New RL 7 8 5 [some .null, some .null, some .null, some .null, some .null] := ⟨RX8, TX8, tyX8, rfl, u_X8, tyX8_ok, tm_1 14 rfl rfl, tm_1 15 rfl rfl, tm_1 1 rfl rfl, fun j hj => by
  match j, hj with
  | 0, _ => rfl
  | 1, _ => rfl
  | 2, _ => rfl
  | 3, _ => rfl
  | 4, _ => rfl⟩
theorem i_L_9 : ja_Ci RL 9 yX8_init cX8_init 1 0 := ⟨tm_1 16 rfl rfl, tm_1 17 rfl rfl, tm_1 1 rfl rfl, tm_1 18 rfl rfl, by decide +kernel, by decide +kernel, by decide +kernel, by decide +kernel⟩
theorem n_L_10 : ja_New RL 10 9 11 [some .null, some .null, some .null, some .null, some .null, none, some .null, some .null, some .null, none, none] := ⟨RX9, TX9, tyX9, rfl, u_X9, tyX9_ok, tm_4 103 rfl rfl, tm_4 104 rfl rfl, tm_1 10 rfl rfl, fun j hj => by
  match j, hj with
  | 0, _ => rfl
  | 1, _ => rfl
  | 2, _ => rfl
  | 3, _ => rfl
  | 4, _ => rfl
  | 5, _ => rfl
  | 6, _ => rfl
  | 7, _ => rfl
  | 8, _ => rfl
  | 9, _ => rfl
  | 10, _ => rfl⟩
theorem i_L_12 : ja_Ci RL 12 yX9_init cX9_init 1 0 := ⟨tm_4 105 rfl rfl, tm_4 106 rfl rfl, tm_1 10 rfl rfl, tm_4 107 rfl rfl, by decide +kernel, by decide +kernel, by decide +kernel, by decide +kernel⟩
theorem v_L_13 : ja_Cv RL 13 yX8_setFrame cX8_setFrame 3 (some .int) 1 := ⟨tm_2 77 rfl rfl, tm_2 78 rfl rfl, tm_2 79 rfl rfl, tm_1 1 rfl rfl, tm_2 80 rfl rfl, by decide +kernel, by decide +kernel, by decide +kernel⟩
theorem v_L_17 : ja_Cv RL 17 yX9_setFrame cX9_setFrame 2 (some .int) 1 := ⟨tm_4 144 rfl rfl, tm_4 145 rfl rfl, tm_4 146 rfl rfl, tm_1 10 rfl rfl, tm_4 147 rfl rfl, by decide +kernel, by decide +kernel, by decide +kernel⟩
theorem v_L_18 : ja_Cv RL 18 yX8_setWave cX8_setWave 4 (some .int) 2 := ⟨tm_2 85 rfl rfl, tm_2 86 rfl rfl, tm_2 87 rfl rfl, tm_1 1 rfl rfl, tm_2 88 rfl rfl, by decide +kernel, by decide +kernel, by decide +kernel⟩
theorem v_L_22 : ja_Cv RL 22 yX9_setWave cX9_setWave 4 (some .int) 2 := ⟨tm_4 159 rfl rfl, tm_4 160 rfl rfl, tm_4 161 rfl rfl, tm_1 10 rfl rfl, tm_4 162 rfl rfl, by decide +kernel, by decide +kernel, by decide +kernel⟩
theorem v_L_23 : ja_Cv RL 23 yX8_setBlock cX8_setBlock 4 (some .int) 2 := ⟨tm_2 89 rfl rfl, tm_2 90 rfl rfl, tm_2 91 rfl rfl, tm_1 1 rfl rfl, tm_2 92 rfl rfl, by decide +kernel, by decide +kernel, by decide +kernel⟩
theorem v_L_26 : ja_Cv RL 26 yX9_setBlock cX9_setBlock 4 (some .int) 2 := ⟨tm_4 163 rfl rfl, tm_4 164 rfl rfl, tm_4 165 rfl rfl, tm_1 10 rfl rfl, tm_4 166 rfl rfl, by decide +kernel, by decide +kernel, by decide +kernel⟩
theorem v_L_27 : ja_Cv RL 27 yX8_setInitialDelay cX8_setInitialDelay 3 (some .int) 1 := ⟨tm_2 93 rfl rfl, tm_2 94 rfl rfl, tm_2 95 rfl rfl, tm_1 1 rfl rfl, tm_2 96 rfl rfl, by decide +kernel, by decide +kernel, by decide +kernel⟩
theorem v_L_30 : ja_Cv RL 30 yX9_setInitialDelay cX9_setInitialDelay 2 (some .int) 1 := ⟨tm_4 167 rfl rfl, tm_4 168 rfl rfl, tm_4 169 rfl rfl, tm_1 10 rfl rfl, tm_4 170 rfl rfl, by decide +kernel, by decide +kernel, by decide +kernel⟩
theorem v_L_31 : ja_Cv RL 31 yX8_setQuantile cX8_setQuantile 3 (some .int) 1 := ⟨tm_2 97 rfl rfl, tm_2 98 rfl rfl, tm_2 99 rfl rfl, tm_1 1 rfl rfl, tm_2 100 rfl rfl, by decide +kernel, by decide +kernel, by decide +kernel⟩
theorem v_L_34 : ja_Cv RL 34 yX9_setQuantile cX9_setQuantile 2 (some .int) 1 := ⟨tm_4 171 rfl rfl, tm_4 172 rfl rfl, tm_4 173 rfl rfl, tm_1 10 rfl rfl, tm_4 174 rfl rfl, by decide +kernel, by decide +kernel, by decide +kernel⟩
theorem v_L_35 : ja_Cv RL 35 yX8_setMargin cX8_setMargin 3 (some .int) 1 := ⟨tm_2 101 rfl rfl, tm_2 102 rfl rfl, tm_2 103 rfl rfl, tm_1 1 rfl rfl, tm_2 104 rfl rfl, by decide +kernel, by decide +kernel, by decide +kernel⟩
theorem v_L_38 : ja_Cv RL 38 yX9_setMargin cX9_setMargin 2 (some .int) 1 := ⟨tm_4 175 rfl rfl, tm_4 176 rfl rfl, tm_4 177 rfl rfl, tm_1 10 rfl rfl, tm_4 178 rfl rfl, by decide +kernel, by decide +kernel, by decide +kernel⟩
theorem v_L_39 : ja_Cv RL 39 yX8_setAdapting cX8_setAdapting 3 (some .int) 1 := ⟨tm_2 105 rfl rfl, tm_2 106 rfl rfl, tm_2 107 rfl rfl, tm_1 1 rfl rfl, tm_2 108 rfl rfl, by decide +kernel, by decide +kernel, by decide +kernel⟩
theorem v_L_43 : ja_Cv RL 43 yX9_setAdapting cX9_setAdapting 2 (some .int) 1 := ⟨tm_4 179 rfl rfl, tm_4 180 rfl rfl, tm_4 181 rfl rfl, tm_1 10 rfl rfl, tm_4 182 rfl rfl, by decide +kernel, by decide +kernel, by decide +kernel⟩
theorem v_L_44 : ja_Cv RL 44 yX8_arrive cX8_arrive 2 (some .int) 1 := ⟨tm_2 109 rfl rfl, tm_2 110 rfl rfl, tm_2 111 rfl rfl, tm_1 1 rfl rfl, tm_2 112 rfl rfl, by decide +kernel, by decide +kernel, by decide +kernel⟩
theorem v_L_47 : ja_Cv RL 47 yX9_arrive cX9_arrive 2 (some .int) 1 := ⟨tm_4 183 rfl rfl, tm_4 184 rfl rfl, tm_4 185 rfl rfl, tm_1 10 rfl rfl, tm_4 186 rfl rfl, by decide +kernel, by decide +kernel, by decide +kernel⟩
theorem v_L_48 : ja_Cv RL 48 yX8_arriveParity cX8_arriveParity 4 (some .int) 3 := ⟨tm_2 175 rfl rfl, tm_2 176 rfl rfl, tm_2 177 rfl rfl, tm_1 1 rfl rfl, tm_2 178 rfl rfl, by decide +kernel, by decide +kernel, by decide +kernel⟩
theorem v_L_52 : ja_Cv RL 52 yX9_arriveParity cX9_arriveParity 4 (some .int) 3 := ⟨tm_4 234 rfl rfl, tm_4 235 rfl rfl, tm_4 236 rfl rfl, tm_1 10 rfl rfl, tm_4 237 rfl rfl, by decide +kernel, by decide +kernel, by decide +kernel⟩
theorem v_L_53 : ja_Cv RL 53 yX8_advance cX8_advance 4 (some .int) 1 := ⟨tm_2 200 rfl rfl, tm_2 201 rfl rfl, tm_2 202 rfl rfl, tm_1 1 rfl rfl, tm_2 203 rfl rfl, by decide +kernel, by decide +kernel, by decide +kernel⟩
theorem v_L_56 : ja_Cv RL 56 yX9_advance cX9_advance 4 (some .int) 1 := ⟨tm_5 6 rfl rfl, tm_5 7 rfl rfl, tm_5 8 rfl rfl, tm_1 10 rfl rfl, tm_5 9 rfl rfl, by decide +kernel, by decide +kernel, by decide +kernel⟩
theorem v_L_57 : ja_Cv RL 57 yX8_time cX8_time 1 (some .int) 0 := ⟨tm_3 81 rfl rfl, tm_3 82 rfl rfl, tm_3 83 rfl rfl, tm_1 1 rfl rfl, tm_3 84 rfl rfl, by decide +kernel, by decide +kernel, by decide +kernel⟩
theorem v_L_61 : ja_Cv RL 61 yX9_time cX9_time 1 (some .int) 0 := ⟨tm_5 68 rfl rfl, tm_5 69 rfl rfl, tm_5 70 rfl rfl, tm_1 10 rfl rfl, tm_5 71 rfl rfl, by decide +kernel, by decide +kernel, by decide +kernel⟩
theorem v_L_62 : ja_Cv RL 62 yX8_start cX8_start 1 (some .int) 0 := ⟨tm_3 85 rfl rfl, tm_3 86 rfl rfl, tm_3 87 rfl rfl, tm_1 1 rfl rfl, tm_3 88 rfl rfl, by decide +kernel, by decide +kernel, by decide +kernel⟩
theorem v_L_65 : ja_Cv RL 65 yX9_start cX9_start 1 (some .int) 0 := ⟨tm_5 72 rfl rfl, tm_5 73 rfl rfl, tm_5 74 rfl rfl, tm_1 10 rfl rfl, tm_5 75 rfl rfl, by decide +kernel, by decide +kernel, by decide +kernel⟩
theorem v_L_66 : ja_Cv RL 66 yX8_output cX8_output 2 (some .int) 1 := ⟨tm_3 89 rfl rfl, tm_3 90 rfl rfl, tm_3 91 rfl rfl, tm_1 1 rfl rfl, tm_3 92 rfl rfl, by decide +kernel, by decide +kernel, by decide +kernel⟩
theorem v_L_69 : ja_Cv RL 69 yX9_output cX9_output 2 (some .int) 1 := ⟨tm_5 76 rfl rfl, tm_5 77 rfl rfl, tm_5 78 rfl rfl, tm_1 10 rfl rfl, tm_5 79 rfl rfl, by decide +kernel, by decide +kernel, by decide +kernel⟩
theorem v_L_70 : ja_Cv RL 70 yX8_outputs cX8_outputs 1 (some .int) 0 := ⟨tm_3 94 rfl rfl, tm_3 95 rfl rfl, tm_3 96 rfl rfl, tm_1 1 rfl rfl, tm_3 97 rfl rfl, by decide +kernel, by decide +kernel, by decide +kernel⟩
theorem v_L_73 : ja_Cv RL 73 yX9_outputs cX9_outputs 1 (some .int) 0 := ⟨tm_5 80 rfl rfl, tm_5 81 rfl rfl, tm_5 82 rfl rfl, tm_1 10 rfl rfl, tm_5 83 rfl rfl, by decide +kernel, by decide +kernel, by decide +kernel⟩
theorem v_L_74 : ja_Cv RL 74 yX8_left cX8_left 1 (some .int) 0 := ⟨tm_3 98 rfl rfl, tm_3 99 rfl rfl, tm_3 100 rfl rfl, tm_1 1 rfl rfl, tm_3 101 rfl rfl, by decide +kernel, by decide +kernel, by decide +kernel⟩
theorem v_L_77 : ja_Cv RL 77 yX9_left cX9_left 1 (some .int) 0 := ⟨tm_5 84 rfl rfl, tm_5 85 rfl rfl, tm_5 86 rfl rfl, tm_1 10 rfl rfl, tm_5 87 rfl rfl, by decide +kernel, by decide +kernel, by decide +kernel⟩
theorem v_L_78 : ja_Cv RL 78 yX8_next cX8_next 1 (some .int) 0 := ⟨tm_3 103 rfl rfl, tm_3 104 rfl rfl, tm_3 105 rfl rfl, tm_1 1 rfl rfl, tm_3 106 rfl rfl, by decide +kernel, by decide +kernel, by decide +kernel⟩
theorem v_L_81 : ja_Cv RL 81 yX9_next cX9_next 1 (some .int) 0 := ⟨tm_5 88 rfl rfl, tm_5 89 rfl rfl, tm_5 90 rfl rfl, tm_1 10 rfl rfl, tm_5 91 rfl rfl, by decide +kernel, by decide +kernel, by decide +kernel⟩
theorem v_L_82 : ja_Cv RL 82 yX8_kind cX8_kind 2 (some .int) 1 := ⟨tm_3 107 rfl rfl, tm_3 108 rfl rfl, tm_3 109 rfl rfl, tm_1 1 rfl rfl, tm_3 110 rfl rfl, by decide +kernel, by decide +kernel, by decide +kernel⟩
theorem v_L_85 : ja_Cv RL 85 yX9_kind cX9_kind 2 (some .int) 1 := ⟨tm_5 92 rfl rfl, tm_5 93 rfl rfl, tm_5 94 rfl rfl, tm_1 10 rfl rfl, tm_5 95 rfl rfl, by decide +kernel, by decide +kernel, by decide +kernel⟩
theorem v_L_86 : ja_Cv RL 86 yX8_state cX8_state 2 (some .int) 1 := ⟨tm_3 115 rfl rfl, tm_3 116 rfl rfl, tm_3 117 rfl rfl, tm_1 1 rfl rfl, tm_3 118 rfl rfl, by decide +kernel, by decide +kernel, by decide +kernel⟩
theorem v_L_89 : ja_Cv RL 89 yX9_state cX9_state 2 (some .int) 1 := ⟨tm_5 96 rfl rfl, tm_5 97 rfl rfl, tm_5 98 rfl rfl, tm_1 10 rfl rfl, tm_5 99 rfl rfl, by decide +kernel, by decide +kernel, by decide +kernel⟩
theorem v_L_90 : ja_Cv RL 90 yX8_sample cX8_sample 3 (some .int) 2 := ⟨tm_3 120 rfl rfl, tm_3 121 rfl rfl, tm_3 122 rfl rfl, tm_1 1 rfl rfl, tm_3 123 rfl rfl, by decide +kernel, by decide +kernel, by decide +kernel⟩
theorem v_L_93 : ja_Cv RL 93 yX9_sample cX9_sample 3 (some .int) 2 := ⟨tm_5 100 rfl rfl, tm_5 101 rfl rfl, tm_5 102 rfl rfl, tm_1 10 rfl rfl, tm_5 103 rfl rfl, by decide +kernel, by decide +kernel, by decide +kernel⟩
theorem v_L_94 : ja_Cv RL 94 yX8_missing cX8_missing 4 (some .int) 3 := ⟨tm_3 125 rfl rfl, tm_3 126 rfl rfl, tm_3 127 rfl rfl, tm_1 1 rfl rfl, tm_3 128 rfl rfl, by decide +kernel, by decide +kernel, by decide +kernel⟩
theorem v_L_97 : ja_Cv RL 97 yX9_missing cX9_missing 4 (some .int) 3 := ⟨tm_5 104 rfl rfl, tm_5 105 rfl rfl, tm_5 106 rfl rfl, tm_1 10 rfl rfl, tm_5 107 rfl rfl, by decide +kernel, by decide +kernel, by decide +kernel⟩
theorem v_L_98 : ja_Cv RL 98 yX8_unrestorable cX8_unrestorable 2 (some .int) 1 := ⟨tm_3 133 rfl rfl, tm_3 134 rfl rfl, tm_3 135 rfl rfl, tm_1 1 rfl rfl, tm_3 136 rfl rfl, by decide +kernel, by decide +kernel, by decide +kernel⟩
theorem v_L_101 : ja_Cv RL 101 yX9_unrestorable cX9_unrestorable 5 (some .int) 1 := ⟨tm_5 108 rfl rfl, tm_5 109 rfl rfl, tm_5 110 rfl rfl, tm_1 10 rfl rfl, tm_5 111 rfl rfl, by decide +kernel, by decide +kernel, by decide +kernel⟩
theorem v_L_102 : ja_Cv RL 102 yX8_paritySample cX8_paritySample 10 (some .int) 4 := ⟨tm_3 142 rfl rfl, tm_3 143 rfl rfl, tm_3 144 rfl rfl, tm_1 1 rfl rfl, tm_3 145 rfl rfl, by decide +kernel, by decide +kernel, by decide +kernel⟩
theorem v_L_106 : ja_Cv RL 106 yX9_paritySample cX9_paritySample 8 (some .int) 4 := ⟨tm_5 120 rfl rfl, tm_5 121 rfl rfl, tm_5 122 rfl rfl, tm_1 10 rfl rfl, tm_5 123 rfl rfl, by decide +kernel, by decide +kernel, by decide +kernel⟩
theorem v_L_107 : ja_Cv RL 107 yX8_transits cX8_transits 1 (some .int) 0 := ⟨tm_3 150 rfl rfl, tm_3 151 rfl rfl, tm_3 152 rfl rfl, tm_1 1 rfl rfl, tm_3 153 rfl rfl, by decide +kernel, by decide +kernel, by decide +kernel⟩
theorem v_L_110 : ja_Cv RL 110 yX9_transits cX9_transits 1 (some .int) 0 := ⟨tm_5 124 rfl rfl, tm_5 125 rfl rfl, tm_5 126 rfl rfl, tm_1 10 rfl rfl, tm_5 127 rfl rfl, by decide +kernel, by decide +kernel, by decide +kernel⟩
theorem v_L_111 : ja_Cv RL 111 yX8_transit cX8_transit 2 (some .int) 1 := ⟨tm_3 154 rfl rfl, tm_3 155 rfl rfl, tm_3 156 rfl rfl, tm_1 1 rfl rfl, tm_3 157 rfl rfl, by decide +kernel, by decide +kernel, by decide +kernel⟩
theorem v_L_114 : ja_Cv RL 114 yX9_transit cX9_transit 2 (some .int) 1 := ⟨tm_5 128 rfl rfl, tm_5 129 rfl rfl, tm_5 130 rfl rfl, tm_1 10 rfl rfl, tm_5 131 rfl rfl, by decide +kernel, by decide +kernel, by decide +kernel⟩
theorem v_L_115 : ja_Cv RL 115 yX8_target cX8_target 1 (some .int) 0 := ⟨tm_3 163 rfl rfl, tm_3 164 rfl rfl, tm_3 165 rfl rfl, tm_1 1 rfl rfl, tm_3 166 rfl rfl, by decide +kernel, by decide +kernel, by decide +kernel⟩
theorem v_L_118 : ja_Cv RL 118 yX9_target cX9_target 1 (some .int) 0 := ⟨tm_5 132 rfl rfl, tm_5 133 rfl rfl, tm_5 134 rfl rfl, tm_1 10 rfl rfl, tm_5 135 rfl rfl, by decide +kernel, by decide +kernel, by decide +kernel⟩
theorem v_L_119 : ja_Cv RL 119 yX8_level cX8_level 1 (some .int) 0 := ⟨tm_3 168 rfl rfl, tm_3 169 rfl rfl, tm_3 170 rfl rfl, tm_1 1 rfl rfl, tm_3 171 rfl rfl, by decide +kernel, by decide +kernel, by decide +kernel⟩
theorem v_L_122 : ja_Cv RL 122 yX9_level cX9_level 1 (some .int) 0 := ⟨tm_5 136 rfl rfl, tm_5 137 rfl rfl, tm_5 138 rfl rfl, tm_1 10 rfl rfl, tm_5 139 rfl rfl, by decide +kernel, by decide +kernel, by decide +kernel⟩
theorem v_L_123 : ja_Cv RL 123 yX8_taken cX8_taken 2 (some .int) 1 := ⟨tm_3 173 rfl rfl, tm_3 174 rfl rfl, tm_3 175 rfl rfl, tm_1 1 rfl rfl, tm_3 176 rfl rfl, by decide +kernel, by decide +kernel, by decide +kernel⟩
theorem v_L_126 : ja_Cv RL 126 yX9_taken cX9_taken 2 (some .int) 1 := ⟨tm_5 140 rfl rfl, tm_5 141 rfl rfl, tm_5 142 rfl rfl, tm_1 10 rfl rfl, tm_5 143 rfl rfl, by decide +kernel, by decide +kernel, by decide +kernel⟩
theorem v_L_127 : ja_Cv RL 127 yX8_stretched cX8_stretched 1 (some .int) 0 := ⟨tm_3 181 rfl rfl, tm_3 182 rfl rfl, tm_3 183 rfl rfl, tm_1 1 rfl rfl, tm_3 184 rfl rfl, by decide +kernel, by decide +kernel, by decide +kernel⟩
theorem v_L_130 : ja_Cv RL 130 yX9_stretched cX9_stretched 1 (some .int) 0 := ⟨tm_5 144 rfl rfl, tm_5 145 rfl rfl, tm_5 146 rfl rfl, tm_1 10 rfl rfl, tm_5 147 rfl rfl, by decide +kernel, by decide +kernel, by decide +kernel⟩
theorem v_L_131 : ja_Cv RL 131 yX8_compressed cX8_compressed 1 (some .int) 0 := ⟨tm_3 185 rfl rfl, tm_3 186 rfl rfl, tm_3 187 rfl rfl, tm_1 1 rfl rfl, tm_3 188 rfl rfl, by decide +kernel, by decide +kernel, by decide +kernel⟩
theorem v_L_134 : ja_Cv RL 134 yX9_compressed cX9_compressed 1 (some .int) 0 := ⟨tm_5 148 rfl rfl, tm_5 149 rfl rfl, tm_5 150 rfl rfl, tm_1 10 rfl rfl, tm_5 151 rfl rfl, by decide +kernel, by decide +kernel, by decide +kernel⟩
theorem v_L_135 : ja_Cv RL 135 yX8_late cX8_late 1 (some .int) 0 := ⟨tm_3 189 rfl rfl, tm_3 190 rfl rfl, tm_3 191 rfl rfl, tm_1 1 rfl rfl, tm_3 192 rfl rfl, by decide +kernel, by decide +kernel, by decide +kernel⟩
theorem v_L_138 : ja_Cv RL 138 yX9_late cX9_late 1 (some .int) 0 := ⟨tm_5 152 rfl rfl, tm_5 153 rfl rfl, tm_5 154 rfl rfl, tm_1 10 rfl rfl, tm_5 155 rfl rfl, by decide +kernel, by decide +kernel, by decide +kernel⟩
theorem v_L_139 : ja_Cv RL 139 yX8_duplicates cX8_duplicates 1 (some .int) 0 := ⟨tm_3 193 rfl rfl, tm_3 194 rfl rfl, tm_3 195 rfl rfl, tm_1 1 rfl rfl, tm_3 196 rfl rfl, by decide +kernel, by decide +kernel, by decide +kernel⟩
theorem v_L_142 : ja_Cv RL 142 yX9_duplicates cX9_duplicates 1 (some .int) 0 := ⟨tm_5 156 rfl rfl, tm_5 157 rfl rfl, tm_5 158 rfl rfl, tm_1 10 rfl rfl, tm_5 159 rfl rfl, by decide +kernel, by decide +kernel, by decide +kernel⟩
theorem v_L_143 : ja_Cv RL 143 yX8_loss cX8_loss 5 (some .int) 1 := ⟨tm_3 197 rfl rfl, tm_3 198 rfl rfl, tm_3 199 rfl rfl, tm_1 1 rfl rfl, tm_3 200 rfl rfl, by decide +kernel, by decide +kernel, by decide +kernel⟩
theorem v_L_146 : ja_Cv RL 146 yX9_loss cX9_loss 6 (some .int) 1 := ⟨tm_5 160 rfl rfl, tm_5 161 rfl rfl, tm_5 162 rfl rfl, tm_1 10 rfl rfl, tm_5 163 rfl rfl, by decide +kernel, by decide +kernel, by decide +kernel⟩
theorem v_L_147 : ja_Cv RL 147 yX8_longestGap cX8_longestGap 1 (some .int) 0 := ⟨tm_3 204 rfl rfl, tm_3 205 rfl rfl, tm_3 206 rfl rfl, tm_1 1 rfl rfl, tm_3 207 rfl rfl, by decide +kernel, by decide +kernel, by decide +kernel⟩
theorem v_L_150 : ja_Cv RL 150 yX9_longestGap cX9_longestGap 1 (some .int) 0 := ⟨tm_5 164 rfl rfl, tm_5 165 rfl rfl, tm_5 166 rfl rfl, tm_1 10 rfl rfl, tm_5 167 rfl rfl, by decide +kernel, by decide +kernel, by decide +kernel⟩
theorem v_L_151 : ja_Cv RL 151 yX8_ticksToGap cX8_ticksToGap 3 (some .int) 0 := ⟨tm_3 208 rfl rfl, tm_3 209 rfl rfl, tm_3 210 rfl rfl, tm_1 1 rfl rfl, tm_3 211 rfl rfl, by decide +kernel, by decide +kernel, by decide +kernel⟩
theorem v_L_154 : ja_Cv RL 154 yX9_ticksToGap cX9_ticksToGap 4 (some .int) 0 := ⟨tm_5 168 rfl rfl, tm_5 169 rfl rfl, tm_5 170 rfl rfl, tm_1 10 rfl rfl, tm_5 171 rfl rfl, by decide +kernel, by decide +kernel, by decide +kernel⟩
theorem v_L_155 : ja_Cv RL 155 yX8_gapsIn cX8_gapsIn 4 (some .int) 1 := ⟨tm_4 9 rfl rfl, tm_4 10 rfl rfl, tm_4 11 rfl rfl, tm_1 1 rfl rfl, tm_4 12 rfl rfl, by decide +kernel, by decide +kernel, by decide +kernel⟩
theorem v_L_158 : ja_Cv RL 158 yX9_gapsIn cX9_gapsIn 5 (some .int) 1 := ⟨tm_5 172 rfl rfl, tm_5 173 rfl rfl, tm_5 174 rfl rfl, tm_1 10 rfl rfl, tm_5 175 rfl rfl, by decide +kernel, by decide +kernel, by decide +kernel⟩
theorem v_L_159 : ja_Cv RL 159 yX8_ticksToFrame cX8_ticksToFrame 3 (some .int) 1 := ⟨tm_4 13 rfl rfl, tm_4 14 rfl rfl, tm_4 15 rfl rfl, tm_1 1 rfl rfl, tm_4 16 rfl rfl, by decide +kernel, by decide +kernel, by decide +kernel⟩
theorem v_L_162 : ja_Cv RL 162 yX9_ticksToFrame cX9_ticksToFrame 5 (some .int) 1 := ⟨tm_5 176 rfl rfl, tm_5 177 rfl rfl, tm_5 178 rfl rfl, tm_1 10 rfl rfl, tm_5 179 rfl rfl, by decide +kernel, by decide +kernel, by decide +kernel⟩
theorem v_L_163 : ja_Cv RL 163 yX8_append cX8_append 2 (some .int) 1 := ⟨tm_4 17 rfl rfl, tm_4 18 rfl rfl, tm_4 19 rfl rfl, tm_1 1 rfl rfl, tm_4 20 rfl rfl, by decide +kernel, by decide +kernel, by decide +kernel⟩
theorem v_L_166 : ja_Cv RL 166 yX9_append cX9_append 2 (some .int) 1 := ⟨tm_5 180 rfl rfl, tm_5 181 rfl rfl, tm_5 182 rfl rfl, tm_1 10 rfl rfl, tm_5 183 rfl rfl, by decide +kernel, by decide +kernel, by decide +kernel⟩
theorem v_L_167 : ja_Cv RL 167 yX8_clearText cX8_clearText 2 (some .int) 0 := ⟨tm_4 25 rfl rfl, tm_4 26 rfl rfl, tm_4 27 rfl rfl, tm_1 1 rfl rfl, tm_4 28 rfl rfl, by decide +kernel, by decide +kernel, by decide +kernel⟩
theorem v_L_170 : ja_Cv RL 170 yX9_clearText cX9_clearText 2 (some .int) 0 := ⟨tm_5 184 rfl rfl, tm_5 185 rfl rfl, tm_5 186 rfl rfl, tm_1 10 rfl rfl, tm_5 187 rfl rfl, by decide +kernel, by decide +kernel, by decide +kernel⟩
theorem v_L_171 : ja_Cv RL 171 yX8_faultPosition cX8_faultPosition 1 (some .int) 0 := ⟨tm_4 29 rfl rfl, tm_4 30 rfl rfl, tm_4 31 rfl rfl, tm_1 1 rfl rfl, tm_4 32 rfl rfl, by decide +kernel, by decide +kernel, by decide +kernel⟩
theorem v_L_174 : ja_Cv RL 174 yX9_faultPosition cX9_faultPosition 1 (some .int) 0 := ⟨tm_5 188 rfl rfl, tm_5 189 rfl rfl, tm_5 190 rfl rfl, tm_1 10 rfl rfl, tm_5 191 rfl rfl, by decide +kernel, by decide +kernel, by decide +kernel⟩
theorem v_L_175 : ja_Cv RL 175 yX8_schedule cX8_schedule 2 (some .int) 0 := ⟨tm_4 58 rfl rfl, tm_4 59 rfl rfl, tm_4 60 rfl rfl, tm_1 1 rfl rfl, tm_4 61 rfl rfl, by decide +kernel, by decide +kernel, by decide +kernel⟩
theorem v_L_178 : ja_Cv RL 178 yX9_schedule cX9_schedule 2 (some .int) 0 := ⟨tm_5 212 rfl rfl, tm_5 213 rfl rfl, tm_5 214 rfl rfl, tm_1 10 rfl rfl, tm_5 215 rfl rfl, by decide +kernel, by decide +kernel, by decide +kernel⟩
theorem v_L_179 : ja_Cv RL 179 yX8_scheduled cX8_scheduled 1 (some .int) 0 := ⟨tm_4 67 rfl rfl, tm_4 68 rfl rfl, tm_4 69 rfl rfl, tm_1 1 rfl rfl, tm_4 70 rfl rfl, by decide +kernel, by decide +kernel, by decide +kernel⟩
theorem v_L_182 : ja_Cv RL 182 yX9_scheduled cX9_scheduled 1 (some .int) 0 := ⟨tm_5 220 rfl rfl, tm_5 221 rfl rfl, tm_5 222 rfl rfl, tm_1 10 rfl rfl, tm_5 223 rfl rfl, by decide +kernel, by decide +kernel, by decide +kernel⟩
theorem v_L_183 : ja_Cv RL 183 yX8_keep cX8_keep 2 (some .int) 1 := ⟨tm_4 71 rfl rfl, tm_4 72 rfl rfl, tm_4 73 rfl rfl, tm_1 1 rfl rfl, tm_4 74 rfl rfl, by decide +kernel, by decide +kernel, by decide +kernel⟩
theorem v_L_186 : ja_Cv RL 186 yX9_keep cX9_keep 3 (some .int) 1 := ⟨tm_5 224 rfl rfl, tm_5 225 rfl rfl, tm_5 226 rfl rfl, tm_1 10 rfl rfl, tm_5 227 rfl rfl, by decide +kernel, by decide +kernel, by decide +kernel⟩
theorem v_L_187 : ja_Cv RL 187 yX8_restore cX8_restore 2 (some .int) 1 := ⟨tm_4 75 rfl rfl, tm_4 76 rfl rfl, tm_4 77 rfl rfl, tm_1 1 rfl rfl, tm_4 78 rfl rfl, by decide +kernel, by decide +kernel, by decide +kernel⟩
theorem v_L_190 : ja_Cv RL 190 yX9_restore cX9_restore 3 (some .int) 1 := ⟨tm_5 228 rfl rfl, tm_5 229 rfl rfl, tm_5 230 rfl rfl, tm_1 10 rfl rfl, tm_5 231 rfl rfl, by decide +kernel, by decide +kernel, by decide +kernel⟩
theorem v_L_191 : ja_Cv RL 191 yX8_checksum cX8_checksum 4 (some .long) 0 := ⟨tm_4 79 rfl rfl, tm_4 80 rfl rfl, tm_4 81 rfl rfl, tm_1 1 rfl rfl, tm_4 82 rfl rfl, by decide +kernel, by decide +kernel, by decide +kernel⟩
theorem v_L_195 : ja_Cv RL 195 yX9_checksum cX9_checksum 4 (some .long) 0 := ⟨tm_5 232 rfl rfl, tm_5 233 rfl rfl, tm_5 234 rfl rfl, tm_1 10 rfl rfl, tm_5 235 rfl rfl, by decide +kernel, by decide +kernel, by decide +kernel⟩
theorem i_X0_3 : Cond.methodLink RX0 3 objectInit ∈ lw_tbg := tm_2 32 rfl rfl
theorem f_X0_11 : ja_Fd RX0 11 0 0 (.array .int) true := ⟨RX0, TX0, 8, tyX0, rfl, by decide, u_X0, tm_2 33 rfl rfl, rfl, tyX0_ok, nmX0, rfl, by decide +kernel⟩
theorem f_X0_15 : ja_Fd RX0 15 0 1 (.int) false := ⟨RX0, TX0, 8, tyX0, rfl, by decide, u_X0, tm_2 34 rfl rfl, rfl, tyX0_ok, nmX0, rfl, by decide +kernel⟩
theorem f_X0_19 : ja_Fd RX0 19 1 4 (.int) false := ⟨RX1, TX1, 5, tyX1, rfl, by decide, u_X1, tm_1 215 rfl rfl, rfl, tyX1_ok, nmX1, rfl, by decide +kernel⟩
theorem f_X0_24 : ja_Fd RX0 24 0 2 (.int) false := ⟨RX0, TX0, 8, tyX0, rfl, by decide, u_X0, tm_2 36 rfl rfl, rfl, tyX0_ok, nmX0, rfl, by decide +kernel⟩
theorem v_X0_27 : ja_Cv RX0 27 yX0_follows cX0_follows 3 (some .boolean) 2 := ⟨tm_4 37 rfl rfl, tm_4 39 rfl rfl, tm_0 10 rfl rfl, tm_1 9 rfl rfl, tm_4 40 rfl rfl, by decide +kernel, by decide +kernel, by decide +kernel⟩
theorem v_X0_31 : ja_Cv RX0 31 yX0_beginsEntry cX0_beginsEntry 2 (some .boolean) 1 := ⟨tm_4 41 rfl rfl, tm_4 43 rfl rfl, tm_0 11 rfl rfl, tm_1 9 rfl rfl, tm_4 44 rfl rfl, by decide +kernel, by decide +kernel, by decide +kernel⟩
theorem f_X0_35 : ja_Fd RX0 35 0 4 (.int) false := ⟨RX0, TX0, 8, tyX0, rfl, by decide, u_X0, tm_2 38 rfl rfl, rfl, tyX0_ok, nmX0, rfl, by decide +kernel⟩
theorem f_X0_38 : ja_Fd RX0 38 0 3 (.int) false := ⟨RX0, TX0, 8, tyX0, rfl, by decide, u_X0, tm_2 37 rfl rfl, rfl, tyX0_ok, nmX0, rfl, by decide +kernel⟩
theorem v_X0_41 : ja_Cv RX0 41 yX0_endOfNumber cX0_endOfNumber 1 (some .int) 0 := ⟨tm_4 49 rfl rfl, tm_4 51 rfl rfl, tm_0 13 rfl rfl, tm_1 9 rfl rfl, tm_4 52 rfl rfl, by decide +kernel, by decide +kernel, by decide +kernel⟩
theorem v_X0_45 : ja_Cv RX0 45 yX0_endNumber cX0_endNumber 2 none 1 := ⟨tm_4 53 rfl rfl, tm_4 55 rfl rfl, tm_0 14 rfl rfl, tm_1 9 rfl rfl, tm_4 56 rfl rfl, by decide +kernel, by decide +kernel, by decide +kernel⟩
theorem f_X0_49 : ja_Fd RX0 49 0 5 (.int) false := ⟨RX0, TX0, 8, tyX0, rfl, by decide, u_X0, tm_2 39 rfl rfl, rfl, tyX0_ok, nmX0, rfl, by decide +kernel⟩
theorem v_X0_52 : ja_Cv RX0 52 yX0_expect cX0_expect 2 none 1 := ⟨tm_4 45 rfl rfl, tm_4 47 rfl rfl, tm_0 12 rfl rfl, tm_1 9 rfl rfl, tm_4 48 rfl rfl, by decide +kernel, by decide +kernel, by decide +kernel⟩
theorem f_X0_56 : ja_Fd RX0 56 0 6 (.int) false := ⟨RX0, TX0, 8, tyX0, rfl, by decide, u_X0, tm_2 40 rfl rfl, rfl, tyX0_ok, nmX0, rfl, by decide +kernel⟩
theorem f_X0_59 : ja_Fd RX0 59 0 7 (.int) false := ⟨RX0, TX0, 8, tyX0, rfl, by decide, u_X0, tm_2 41 rfl rfl, rfl, tyX0_ok, nmX0, rfl, by decide +kernel⟩
theorem v_X0_62 : ja_Cv RX0 62 yX1_add cX1_add 5 none 4 := ⟨tm_4 57 rfl rfl, tm_2 219 rfl rfl, tm_2 220 rfl rfl, tm_1 8 rfl rfl, tm_2 221 rfl rfl, by decide +kernel, by decide +kernel, by decide +kernel⟩
theorem i_X1_1 : Cond.methodLink RX1 1 objectInit ∈ lw_tbg := tm_1 201 rfl rfl
theorem f_X1_9 : ja_Fd RX1 9 1 0 (.array .int) true := ⟨RX1, TX1, 5, tyX1, rfl, by decide, u_X1, tm_1 202 rfl rfl, rfl, tyX1_ok, nmX1, rfl, by decide +kernel⟩
theorem f_X1_13 : ja_Fd RX1 13 1 1 (.array .int) true := ⟨RX1, TX1, 5, tyX1, rfl, by decide, u_X1, tm_1 205 rfl rfl, rfl, tyX1_ok, nmX1, rfl, by decide +kernel⟩
theorem f_X1_16 : ja_Fd RX1 16 1 2 (.array .int) true := ⟨RX1, TX1, 5, tyX1, rfl, by decide, u_X1, tm_1 208 rfl rfl, rfl, tyX1_ok, nmX1, rfl, by decide +kernel⟩
theorem f_X1_19 : ja_Fd RX1 19 1 3 (.array .int) true := ⟨RX1, TX1, 5, tyX1, rfl, by decide, u_X1, tm_1 211 rfl rfl, rfl, tyX1_ok, nmX1, rfl, by decide +kernel⟩
theorem f_X1_22 : ja_Fd RX1 22 1 4 (.int) false := ⟨RX1, TX1, 5, tyX1, rfl, by decide, u_X1, tm_1 214 rfl rfl, rfl, tyX1_ok, nmX1, rfl, by decide +kernel⟩
theorem v_X1_26 : ja_Cv RX1 26 yX1_addAll cX1_addAll 3 none 1 := ⟨tm_4 5 rfl rfl, tm_4 6 rfl rfl, tm_4 7 rfl rfl, tm_1 8 rfl rfl, tm_4 8 rfl rfl, by decide +kernel, by decide +kernel, by decide +kernel⟩
theorem v_X1_30 : ja_Cv RX1 30 yX1_add cX1_add 5 none 4 := ⟨tm_2 218 rfl rfl, tm_2 219 rfl rfl, tm_2 220 rfl rfl, tm_1 8 rfl rfl, tm_2 221 rfl rfl, by decide +kernel, by decide +kernel, by decide +kernel⟩
theorem i_X2_3 : Cond.methodLink RX2 3 objectInit ∈ lw_tbg := tm_1 156 rfl rfl
theorem f_X2_9 : ja_Fd RX2 9 2 0 (.int) false := ⟨RX2, TX2, 9, tyX2, rfl, by decide, u_X2, tm_1 157 rfl rfl, rfl, tyX2_ok, nmX2, rfl, by decide +kernel⟩
theorem f_X2_15 : ja_Fd RX2 15 2 1 (.int) false := ⟨RX2, TX2, 9, tyX2, rfl, by decide, u_X2, tm_1 158 rfl rfl, rfl, tyX2_ok, nmX2, rfl, by decide +kernel⟩
theorem f_X2_18 : ja_Fd RX2 18 2 2 (.int) false := ⟨RX2, TX2, 9, tyX2, rfl, by decide, u_X2, tm_1 159 rfl rfl, rfl, tyX2_ok, nmX2, rfl, by decide +kernel⟩
theorem f_X2_21 : ja_Fd RX2 21 2 3 (.int) false := ⟨RX2, TX2, 9, tyX2, rfl, by decide, u_X2, tm_1 161 rfl rfl, rfl, tyX2_ok, nmX2, rfl, by decide +kernel⟩
theorem f_X2_24 : ja_Fd RX2 24 2 4 (.int) false := ⟨RX2, TX2, 9, tyX2, rfl, by decide, u_X2, tm_1 164 rfl rfl, rfl, tyX2_ok, nmX2, rfl, by decide +kernel⟩
theorem f_X2_27 : ja_Fd RX2 27 2 5 (.int) false := ⟨RX2, TX2, 9, tyX2, rfl, by decide, u_X2, tm_1 167 rfl rfl, rfl, tyX2_ok, nmX2, rfl, by decide +kernel⟩
theorem f_X2_30 : ja_Fd RX2 30 2 6 (.int) false := ⟨RX2, TX2, 9, tyX2, rfl, by decide, u_X2, tm_1 170 rfl rfl, rfl, tyX2_ok, nmX2, rfl, by decide +kernel⟩
theorem f_X2_33 : ja_Fd RX2 33 2 7 (.int) false := ⟨RX2, TX2, 9, tyX2, rfl, by decide, u_X2, tm_1 173 rfl rfl, rfl, tyX2_ok, nmX2, rfl, by decide +kernel⟩
theorem f_X2_36 : ja_Fd RX2 36 2 8 (.int) false := ⟨RX2, TX2, 9, tyX2, rfl, by decide, u_X2, tm_1 175 rfl rfl, rfl, tyX2_ok, nmX2, rfl, by decide +kernel⟩
theorem s_X2_39 : Cond.methodLink RX2 39 Lib.Math.max.name ∈ lw_tbg := tm_2 234 rfl rfl
theorem i_X3_5 : Cond.methodLink RX3 5 objectInit ∈ lw_tbg := tm_1 84 rfl rfl
theorem f_X3_13 : ja_Fd RX3 13 3 0 (.array .long) true := ⟨RX3, TX3, 3, tyX3, rfl, by decide, u_X3, tm_1 85 rfl rfl, rfl, tyX3_ok, nmX3, rfl, by decide +kernel⟩
theorem f_X3_17 : ja_Fd RX3 17 3 1 (.array .long) true := ⟨RX3, TX3, 3, tyX3, rfl, by decide, u_X3, tm_1 86 rfl rfl, rfl, tyX3_ok, nmX3, rfl, by decide +kernel⟩
theorem f_X3_20 : ja_Fd RX3 20 3 2 (.array .int) true := ⟨RX3, TX3, 3, tyX3, rfl, by decide, u_X3, tm_1 87 rfl rfl, rfl, tyX3_ok, nmX3, rfl, by decide +kernel⟩
theorem s_X3_24 : Cond.methodLink RX3 24 arraycopyName ∈ lw_tbg := tm_3 224 rfl rfl
theorem v_X3_30 : ja_Cv RX3 30 yX6_cells cX6_cells 1 (some .int) 0 := ⟨tm_2 124 rfl rfl, tm_2 125 rfl rfl, tm_2 126 rfl rfl, tm_1 3 rfl rfl, tm_2 127 rfl rfl, by decide +kernel, by decide +kernel, by decide +kernel⟩
theorem s_X3_34 : ja_Cs RX3 34 yX3_packetBit cX3_packetBit 2 (some .int) 2 := ⟨tm_2 163 rfl rfl, tm_2 164 rfl rfl, tm_1 4 rfl rfl, tm_2 165 rfl rfl, by decide +kernel, by decide +kernel, by decide +kernel⟩
theorem v_X3_38 : ja_Cv RX3 38 yX3_knownIn cX3_knownIn 6 (some .long) 2 := ⟨tm_2 152 rfl rfl, tm_2 154 rfl rfl, tm_0 2 rfl rfl, tm_1 4 rfl rfl, tm_2 155 rfl rfl, by decide +kernel, by decide +kernel, by decide +kernel⟩
theorem s_X3_42 : ja_Cs RX3 42 yX3_completed cX3_completed 10 (some .long) 3 := ⟨tm_2 157 rfl rfl, tm_2 158 rfl rfl, tm_1 4 rfl rfl, tm_2 159 rfl rfl, by decide +kernel, by decide +kernel, by decide +kernel⟩
theorem l_X3_46 : Cond.constantLong RX3 46 (-1) ∈ lw_tbg := tm_2 156 rfl rfl
theorem s_X3_48 : ja_Cs RX3 48 yJ13_bitCount_95d88 cJ13_bitCount_95d88 2 (some .int) 1 := ⟨tm_2 169 rfl rfl, tm_2 170 rfl rfl, tm_1 12 rfl rfl, tm_2 171 rfl rfl, by decide +kernel, by decide +kernel, by decide +kernel⟩
theorem s_X3_54 : ja_Cs RX3 54 yX3_lineBits cX3_lineBits 6 (some .long) 3 := ⟨tm_2 166 rfl rfl, tm_2 167 rfl rfl, tm_1 4 rfl rfl, tm_2 168 rfl rfl, by decide +kernel, by decide +kernel, by decide +kernel⟩
theorem v_X3_58 : ja_Cv RX3 58 yX3_stateOf cX3_stateOf 5 (some .int) 2 := ⟨tm_3 44 rfl rfl, tm_2 121 rfl rfl, tm_2 122 rfl rfl, tm_1 4 rfl rfl, tm_2 123 rfl rfl, by decide +kernel, by decide +kernel, by decide +kernel⟩
theorem f_X3_62 : ja_Fd RX3 62 6 4 (.int) false := ⟨RX6, TX6, 9, tyX6, rfl, by decide, u_X6, tm_1 47 rfl rfl, rfl, tyX6_ok, nmX6, rfl, by decide +kernel⟩
theorem s_X3_66 : ja_Cs RX3 66 yX3_withLine cX3_withLine 8 (some .long) 5 := ⟨tm_2 160 rfl rfl, tm_2 161 rfl rfl, tm_1 4 rfl rfl, tm_2 162 rfl rfl, by decide +kernel, by decide +kernel, by decide +kernel⟩
theorem f_X3_70 : ja_Fd RX3 70 6 3 (.int) false := ⟨RX6, TX6, 9, tyX6, rfl, by decide, u_X6, tm_1 44 rfl rfl, rfl, tyX6_ok, nmX6, rfl, by decide +kernel⟩
theorem i_X4_3 : Cond.methodLink RX4 3 objectInit ∈ lw_tbg := tm_1 122 rfl rfl
theorem f_X4_11 : ja_Fd RX4 11 4 0 (.array .int) true := ⟨RX4, TX4, 8, tyX4, rfl, by decide, u_X4, tm_1 123 rfl rfl, rfl, tyX4_ok, nmX4, rfl, by decide +kernel⟩
theorem f_X4_15 : ja_Fd RX4 15 4 3 (.array .int) true := ⟨RX4, TX4, 8, tyX4, rfl, by decide, u_X4, tm_1 126 rfl rfl, rfl, tyX4_ok, nmX4, rfl, by decide +kernel⟩
theorem f_X4_18 : ja_Fd RX4 18 4 5 (.array .int) true := ⟨RX4, TX4, 8, tyX4, rfl, by decide, u_X4, tm_1 129 rfl rfl, rfl, tyX4_ok, nmX4, rfl, by decide +kernel⟩
theorem f_X4_21 : ja_Fd RX4 21 4 7 (.array .int) true := ⟨RX4, TX4, 8, tyX4, rfl, by decide, u_X4, tm_1 133 rfl rfl, rfl, tyX4_ok, nmX4, rfl, by decide +kernel⟩
theorem s_X4_24 : Cond.methodLink RX4 24 arraycopyName ∈ lw_tbg := tm_3 236 rfl rfl
theorem f_X4_30 : ja_Fd RX4 30 4 1 (.int) false := ⟨RX4, TX4, 8, tyX4, rfl, by decide, u_X4, tm_1 124 rfl rfl, rfl, tyX4_ok, nmX4, rfl, by decide +kernel⟩
theorem f_X4_34 : ja_Fd RX4 34 4 2 (.int) false := ⟨RX4, TX4, 8, tyX4, rfl, by decide, u_X4, tm_1 125 rfl rfl, rfl, tyX4_ok, nmX4, rfl, by decide +kernel⟩
theorem f_X4_37 : ja_Fd RX4 37 4 4 (.int) false := ⟨RX4, TX4, 8, tyX4, rfl, by decide, u_X4, tm_1 127 rfl rfl, rfl, tyX4_ok, nmX4, rfl, by decide +kernel⟩
theorem f_X4_40 : ja_Fd RX4 40 4 6 (.int) false := ⟨RX4, TX4, 8, tyX4, rfl, by decide, u_X4, tm_1 130 rfl rfl, rfl, tyX4_ok, nmX4, rfl, by decide +kernel⟩
theorem f_X4_43 : ja_Fd RX4 43 6 0 (.int) false := ⟨RX6, TX6, 9, tyX6, rfl, by decide, u_X6, tm_1 37 rfl rfl, rfl, tyX6_ok, nmX6, rfl, by decide +kernel⟩
theorem v_X4_46 : ja_Cv RX4 46 yX6_waveAt cX6_waveAt 4 (some .int) 2 := ⟨tm_3 57 rfl rfl, tm_3 58 rfl rfl, tm_3 59 rfl rfl, tm_1 3 rfl rfl, tm_3 60 rfl rfl, by decide +kernel, by decide +kernel, by decide +kernel⟩
theorem v_X4_50 : ja_Cv RX4 50 yX4_putSource cX4_putSource 4 none 2 := ⟨tm_3 65 rfl rfl, tm_3 67 rfl rfl, tm_0 9 rfl rfl, tm_1 6 rfl rfl, tm_3 68 rfl rfl, by decide +kernel, by decide +kernel, by decide +kernel⟩
theorem v_X4_54 : ja_Cv RX4 54 yX4_bestLag cX4_bestLag 7 (some .int) 2 := ⟨tm_3 10 rfl rfl, tm_3 12 rfl rfl, tm_0 5 rfl rfl, tm_1 6 rfl rfl, tm_3 13 rfl rfl, by decide +kernel, by decide +kernel, by decide +kernel⟩
theorem v_X4_58 : ja_Cv RX4 58 yX4_put cX4_put 2 none 1 := ⟨tm_3 24 rfl rfl, tm_3 26 rfl rfl, tm_0 7 rfl rfl, tm_1 6 rfl rfl, tm_3 27 rfl rfl, by decide +kernel, by decide +kernel, by decide +kernel⟩
theorem s_X4_62 : Cond.methodLink RX4 62 Lib.Math.min.name ∈ lw_tbg := tm_3 5 rfl rfl
theorem v_X4_67 : ja_Cv RX4 67 yX4_outputAt cX4_outputAt 2 (some .int) 1 := ⟨tm_3 6 rfl rfl, tm_3 7 rfl rfl, tm_3 8 rfl rfl, tm_1 6 rfl rfl, tm_3 9 rfl rfl, by decide +kernel, by decide +kernel, by decide +kernel⟩
theorem s_X4_71 : ja_Cs RX4 71 yX4_faded cX4_faded 4 (some .int) 2 := ⟨tm_3 21 rfl rfl, tm_3 22 rfl rfl, tm_1 6 rfl rfl, tm_3 23 rfl rfl, by decide +kernel, by decide +kernel, by decide +kernel⟩
theorem v_X4_74 : ja_Cv RX4 74 yX4_differences cX4_differences 4 (some .int) 1 := ⟨tm_3 14 rfl rfl, tm_3 16 rfl rfl, tm_0 6 rfl rfl, tm_1 6 rfl rfl, tm_3 17 rfl rfl, by decide +kernel, by decide +kernel, by decide +kernel⟩
theorem s_X4_77 : Cond.methodLink RX4 77 Lib.Math.abs.name ∈ lw_tbg := tm_3 18 rfl rfl
theorem i_X5_3 : Cond.methodLink RX5 3 objectInit ∈ lw_tbg := tm_1 27 rfl rfl
theorem n_X5_9 : ja_New RX5 9 6 9 [none, none, none, none, none, none, none, none, none] := ⟨RX6, TX6, tyX6, rfl, u_X6, tyX6_ok, tm_1 28 rfl rfl, tm_1 29 rfl rfl, tm_1 3 rfl rfl, fun j hj => by
  match j, hj with
  | 0, _ => rfl
  | 1, _ => rfl
  | 2, _ => rfl
  | 3, _ => rfl
  | 4, _ => rfl
  | 5, _ => rfl
  | 6, _ => rfl
  | 7, _ => rfl
  | 8, _ => rfl⟩
theorem i_X5_11 : ja_CiN RX5 11 yX6_init cX6_init 1 0 := ⟨⟨"PlayoutBuffer", tn_1 30 rfl⟩, tm_1 31 rfl rfl, tm_1 3 rfl rfl, tm_1 32 rfl rfl, by decide +kernel, by decide +kernel, by decide +kernel, by decide +kernel⟩
theorem f_X5_12 : ja_Fd RX5 12 5 0 (.object "PlayoutBuffer$Settings") true := ⟨RX5, TX5, 9, tyX5, rfl, by decide, u_X5, tm_1 229 rfl rfl, rfl, tyX5_ok, nmX5, rfl, by decide +kernel⟩
theorem n_X5_18 : ja_New RX5 18 3 3 [some .null, some .null, some .null] := ⟨RX3, TX3, tyX3, rfl, u_X3, tyX3_ok, tm_1 79 rfl rfl, tm_1 80 rfl rfl, tm_1 4 rfl rfl, fun j hj => by
  match j, hj with
  | 0, _ => rfl
  | 1, _ => rfl
  | 2, _ => rfl⟩
theorem i_X5_20 : ja_CiN RX5 20 yX3_init cX3_init 1 0 := ⟨⟨"PlayoutBuffer", tn_1 81 rfl⟩, tm_1 82 rfl rfl, tm_1 4 rfl rfl, tm_1 83 rfl rfl, by decide +kernel, by decide +kernel, by decide +kernel, by decide +kernel⟩
theorem f_X5_21 : ja_Fd RX5 21 5 1 (.object "PlayoutBuffer$Frames") true := ⟨RX5, TX5, 9, tyX5, rfl, by decide, u_X5, tm_1 231 rfl rfl, rfl, tyX5_ok, nmX5, rfl, by decide +kernel⟩
theorem n_X5_25 : ja_New RX5 25 7 4 [some .null, some .null, none, none] := ⟨RX7, TX7, tyX7, rfl, u_X7, tyX7_ok, tm_1 97 rfl rfl, tm_1 98 rfl rfl, tm_1 5 rfl rfl, fun j hj => by
  match j, hj with
  | 0, _ => rfl
  | 1, _ => rfl
  | 2, _ => rfl
  | 3, _ => rfl⟩
theorem i_X5_27 : ja_CiN RX5 27 yX7_init cX7_init 1 0 := ⟨⟨"PlayoutBuffer", tn_1 99 rfl⟩, tm_1 100 rfl rfl, tm_1 5 rfl rfl, tm_1 101 rfl rfl, by decide +kernel, by decide +kernel, by decide +kernel, by decide +kernel⟩
theorem f_X5_28 : ja_Fd RX5 28 5 2 (.object "PlayoutBuffer$Transits") true := ⟨RX5, TX5, 9, tyX5, rfl, by decide, u_X5, tm_1 233 rfl rfl, rfl, tyX5_ok, nmX5, rfl, by decide +kernel⟩
theorem n_X5_32 : ja_New RX5 32 4 8 [some .null, none, none, some .null, none, some .null, none, some .null] := ⟨RX4, TX4, tyX4, rfl, u_X4, tyX4_ok, tm_1 117 rfl rfl, tm_1 118 rfl rfl, tm_1 6 rfl rfl, fun j hj => by
  match j, hj with
  | 0, _ => rfl
  | 1, _ => rfl
  | 2, _ => rfl
  | 3, _ => rfl
  | 4, _ => rfl
  | 5, _ => rfl
  | 6, _ => rfl
  | 7, _ => rfl⟩
theorem i_X5_34 : ja_CiN RX5 34 yX4_init cX4_init 1 0 := ⟨⟨"PlayoutBuffer", tn_1 119 rfl⟩, tm_1 120 rfl rfl, tm_1 6 rfl rfl, tm_1 121 rfl rfl, by decide +kernel, by decide +kernel, by decide +kernel, by decide +kernel⟩
theorem f_X5_35 : ja_Fd RX5 35 5 3 (.object "PlayoutBuffer$Player") true := ⟨RX5, TX5, 9, tyX5, rfl, by decide, u_X5, tm_1 235 rfl rfl, rfl, tyX5_ok, nmX5, rfl, by decide +kernel⟩
theorem n_X5_39 : ja_New RX5 39 2 9 [none, none, none, none, none, none, none, none, none] := ⟨RX2, TX2, tyX2, rfl, u_X2, tyX2_ok, tm_1 151 rfl rfl, tm_1 152 rfl rfl, tm_1 7 rfl rfl, fun j hj => by
  match j, hj with
  | 0, _ => rfl
  | 1, _ => rfl
  | 2, _ => rfl
  | 3, _ => rfl
  | 4, _ => rfl
  | 5, _ => rfl
  | 6, _ => rfl
  | 7, _ => rfl
  | 8, _ => rfl⟩
theorem i_X5_41 : ja_CiN RX5 41 yX2_init cX2_init 1 0 := ⟨⟨"PlayoutBuffer", tn_1 153 rfl⟩, tm_1 154 rfl rfl, tm_1 7 rfl rfl, tm_1 155 rfl rfl, by decide +kernel, by decide +kernel, by decide +kernel, by decide +kernel⟩
theorem f_X5_42 : ja_Fd RX5 42 5 4 (.object "PlayoutBuffer$Counters") true := ⟨RX5, TX5, 9, tyX5, rfl, by decide, u_X5, tm_1 237 rfl rfl, rfl, tyX5_ok, nmX5, rfl, by decide +kernel⟩
theorem n_X5_46 : ja_New RX5 46 1 5 [some .null, some .null, some .null, some .null, none] := ⟨RX1, TX1, tyX1, rfl, u_X1, tyX1_ok, tm_1 196 rfl rfl, tm_1 197 rfl rfl, tm_1 8 rfl rfl, fun j hj => by
  match j, hj with
  | 0, _ => rfl
  | 1, _ => rfl
  | 2, _ => rfl
  | 3, _ => rfl
  | 4, _ => rfl⟩
theorem i_X5_48 : ja_CiN RX5 48 yX1_init cX1_init 1 0 := ⟨⟨"PlayoutBuffer", tn_1 198 rfl⟩, tm_1 199 rfl rfl, tm_1 8 rfl rfl, tm_1 200 rfl rfl, by decide +kernel, by decide +kernel, by decide +kernel, by decide +kernel⟩
theorem f_X5_49 : ja_Fd RX5 49 5 5 (.object "PlayoutBuffer$Arrivals") true := ⟨RX5, TX5, 9, tyX5, rfl, by decide, u_X5, tm_1 239 rfl rfl, rfl, tyX5_ok, nmX5, rfl, by decide +kernel⟩
theorem v_X5_53 : ja_Cv RX5 53 yX6_copyFrom cX6_copyFrom 2 none 1 := ⟨tm_3 216 rfl rfl, tm_3 217 rfl rfl, tm_3 218 rfl rfl, tm_1 3 rfl rfl, tm_3 219 rfl rfl, by decide +kernel, by decide +kernel, by decide +kernel⟩
theorem v_X5_57 : ja_Cv RX5 57 yX3_copyFrom cX3_copyFrom 2 none 1 := ⟨tm_3 220 rfl rfl, tm_3 221 rfl rfl, tm_3 222 rfl rfl, tm_1 4 rfl rfl, tm_3 223 rfl rfl, by decide +kernel, by decide +kernel, by decide +kernel⟩
theorem v_X5_60 : ja_Cv RX5 60 yX7_copyFrom cX7_copyFrom 2 none 1 := ⟨tm_3 227 rfl rfl, tm_3 228 rfl rfl, tm_3 229 rfl rfl, tm_1 5 rfl rfl, tm_3 230 rfl rfl, by decide +kernel, by decide +kernel, by decide +kernel⟩
theorem v_X5_63 : ja_Cv RX5 63 yX4_copyFrom cX4_copyFrom 2 none 1 := ⟨tm_3 232 rfl rfl, tm_3 233 rfl rfl, tm_3 234 rfl rfl, tm_1 6 rfl rfl, tm_3 235 rfl rfl, by decide +kernel, by decide +kernel, by decide +kernel⟩
theorem v_X5_66 : ja_Cv RX5 66 yX2_copyFrom cX2_copyFrom 2 none 1 := ⟨tm_3 237 rfl rfl, tm_3 238 rfl rfl, tm_3 239 rfl rfl, tm_1 7 rfl rfl, tm_4 0 rfl rfl, by decide +kernel, by decide +kernel, by decide +kernel⟩
theorem v_X5_69 : ja_Cv RX5 69 yX1_copyFrom cX1_copyFrom 2 none 1 := ⟨tm_4 1 rfl rfl, tm_4 2 rfl rfl, tm_4 3 rfl rfl, tm_1 8 rfl rfl, tm_4 4 rfl rfl, by decide +kernel, by decide +kernel, by decide +kernel⟩
theorem f_X5_72 : ja_Fd RX5 72 5 6 (.int) false := ⟨RX5, TX5, 9, tyX5, rfl, by decide, u_X5, tm_2 1 rfl rfl, rfl, tyX5_ok, nmX5, rfl, by decide +kernel⟩
theorem f_X5_76 : ja_Fd RX5 76 5 7 (.boolean) false := ⟨RX5, TX5, 9, tyX5, rfl, by decide, u_X5, tm_2 3 rfl rfl, rfl, tyX5_ok, nmX5, rfl, by decide +kernel⟩
theorem f_X5_80 : ja_Fd RX5 80 5 8 (.int) false := ⟨RX5, TX5, 9, tyX5, rfl, by decide, u_X5, tm_2 5 rfl rfl, rfl, tyX5_ok, nmX5, rfl, by decide +kernel⟩
theorem f_X5_83 : ja_Fd RX5 83 1 4 (.int) false := ⟨RX1, TX1, 5, tyX1, rfl, by decide, u_X1, tm_1 216 rfl rfl, rfl, tyX1_ok, nmX1, rfl, by decide +kernel⟩
theorem f_X5_86 : ja_Fd RX5 86 6 6 (.int) false := ⟨RX6, TX6, 9, tyX6, rfl, by decide, u_X6, tm_1 52 rfl rfl, rfl, tyX6_ok, nmX6, rfl, by decide +kernel⟩
theorem v_X5_89 : ja_Cv RX5 89 yX7_spread cX7_spread 2 (some .int) 1 := ⟨tm_3 49 rfl rfl, tm_3 50 rfl rfl, tm_3 51 rfl rfl, tm_1 5 rfl rfl, tm_3 52 rfl rfl, by decide +kernel, by decide +kernel, by decide +kernel⟩
theorem f_X5_93 : ja_Fd RX5 93 6 7 (.int) false := ⟨RX6, TX6, 9, tyX6, rfl, by decide, u_X6, tm_1 55 rfl rfl, rfl, tyX6_ok, nmX6, rfl, by decide +kernel⟩
theorem f_X5_96 : ja_Fd RX5 96 6 0 (.int) false := ⟨RX6, TX6, 9, tyX6, rfl, by decide, u_X6, tm_1 36 rfl rfl, rfl, tyX6_ok, nmX6, rfl, by decide +kernel⟩
theorem v_X5_99 : ja_Cv RX5 99 yX3_knownFrom cX3_knownFrom 4 (some .int) 2 := ⟨tm_3 40 rfl rfl, tm_3 41 rfl rfl, tm_3 42 rfl rfl, tm_1 4 rfl rfl, tm_3 43 rfl rfl, by decide +kernel, by decide +kernel, by decide +kernel⟩
theorem v_X5_103 : ja_Cv RX5 103 yX3_stateOf cX3_stateOf 5 (some .int) 2 := ⟨tm_2 120 rfl rfl, tm_2 121 rfl rfl, tm_2 122 rfl rfl, tm_1 4 rfl rfl, tm_2 123 rfl rfl, by decide +kernel, by decide +kernel, by decide +kernel⟩
theorem f_X5_106 : ja_Fd RX5 106 2 6 (.int) false := ⟨RX2, TX2, 9, tyX2, rfl, by decide, u_X2, tm_1 171 rfl rfl, rfl, tyX2_ok, nmX2, rfl, by decide +kernel⟩
theorem v_X5_109 : ja_Cv RX5 109 yX5_startOnce cX5_startOnce 1 none 0 := ⟨tm_2 128 rfl rfl, tm_2 130 rfl rfl, tm_0 0 rfl rfl, tm_1 2 rfl rfl, tm_2 131 rfl rfl, by decide +kernel, by decide +kernel, by decide +kernel⟩
theorem v_X5_112 : ja_Cv RX5 112 yX7_add cX7_add 3 none 1 := ⟨tm_2 132 rfl rfl, tm_2 133 rfl rfl, tm_2 134 rfl rfl, tm_1 5 rfl rfl, tm_2 135 rfl rfl, by decide +kernel, by decide +kernel, by decide +kernel⟩
theorem f_X5_116 : ja_Fd RX5 116 4 6 (.int) false := ⟨RX4, TX4, 8, tyX4, rfl, by decide, u_X4, tm_1 131 rfl rfl, rfl, tyX4_ok, nmX4, rfl, by decide +kernel⟩
theorem f_X5_119 : ja_Fd RX5 119 2 5 (.int) false := ⟨RX2, TX2, 9, tyX2, rfl, by decide, u_X2, tm_1 168 rfl rfl, rfl, tyX2_ok, nmX2, rfl, by decide +kernel⟩
theorem v_X5_122 : ja_Cv RX5 122 yX3_addFrame cX3_addFrame 6 none 2 := ⟨tm_2 143 rfl rfl, tm_2 144 rfl rfl, tm_2 145 rfl rfl, tm_1 4 rfl rfl, tm_2 146 rfl rfl, by decide +kernel, by decide +kernel, by decide +kernel⟩
theorem v_X5_126 : ja_Cv RX5 126 yX6_cells cX6_cells 1 (some .int) 0 := ⟨tm_2 147 rfl rfl, tm_2 125 rfl rfl, tm_2 126 rfl rfl, tm_1 3 rfl rfl, tm_2 127 rfl rfl, by decide +kernel, by decide +kernel, by decide +kernel⟩
theorem v_X5_130 : ja_Cv RX5 130 yX3_restoreIn cX3_restoreIn 7 (some .int) 2 := ⟨tm_2 148 rfl rfl, tm_2 149 rfl rfl, tm_2 150 rfl rfl, tm_1 4 rfl rfl, tm_2 151 rfl rfl, by decide +kernel, by decide +kernel, by decide +kernel⟩
theorem v_X5_133 : ja_Cv RX5 133 yX3_hasPacket cX3_hasPacket 4 (some .boolean) 3 := ⟨tm_2 192 rfl rfl, tm_2 193 rfl rfl, tm_2 194 rfl rfl, tm_1 4 rfl rfl, tm_2 195 rfl rfl, by decide +kernel, by decide +kernel, by decide +kernel⟩
theorem v_X5_137 : ja_Cv RX5 137 yX3_addPacket cX3_addPacket 4 none 3 := ⟨tm_2 196 rfl rfl, tm_2 197 rfl rfl, tm_2 198 rfl rfl, tm_1 4 rfl rfl, tm_2 199 rfl rfl, by decide +kernel, by decide +kernel, by decide +kernel⟩
theorem v_X5_141 : ja_Cv RX5 141 yX5_acceptDue cX5_acceptDue 2 none 0 := ⟨tm_2 208 rfl rfl, tm_2 210 rfl rfl, tm_0 3 rfl rfl, tm_1 2 rfl rfl, tm_2 211 rfl rfl, by decide +kernel, by decide +kernel, by decide +kernel⟩
theorem v_X5_144 : ja_Cv RX5 144 yX4_remaining cX4_remaining 1 (some .int) 0 := ⟨tm_2 222 rfl rfl, tm_2 223 rfl rfl, tm_2 224 rfl rfl, tm_1 6 rfl rfl, tm_2 225 rfl rfl, by decide +kernel, by decide +kernel, by decide +kernel⟩
theorem v_X5_147 : ja_Cv RX5 147 yX5_takeFrame cX5_takeFrame 4 none 1 := ⟨tm_2 226 rfl rfl, tm_2 228 rfl rfl, tm_0 4 rfl rfl, tm_1 2 rfl rfl, tm_2 229 rfl rfl, by decide +kernel, by decide +kernel, by decide +kernel⟩
theorem v_X5_150 : ja_Cv RX5 150 yX4_putOut cX4_putOut 1 none 0 := ⟨tm_3 77 rfl rfl, tm_3 78 rfl rfl, tm_3 79 rfl rfl, tm_1 6 rfl rfl, tm_3 80 rfl rfl, by decide +kernel, by decide +kernel, by decide +kernel⟩
theorem f_X5_153 : ja_Fd RX5 153 6 5 (.int) false := ⟨RX6, TX6, 9, tyX6, rfl, by decide, u_X6, tm_1 50 rfl rfl, rfl, tyX6_ok, nmX6, rfl, by decide +kernel⟩
theorem f_X5_156 : ja_FdN RX5 156 1 3 := ⟨RX1, TX1, 5, "PlayoutBuffer", rfl, by decide, u_X1, tn_1 212 rfl, rfl⟩
theorem f_X5_160 : ja_FdN RX5 160 1 0 := ⟨RX1, TX1, 5, "PlayoutBuffer", rfl, by decide, u_X1, tn_1 203 rfl, rfl⟩
theorem f_X5_163 : ja_FdN RX5 163 1 1 := ⟨RX1, TX1, 5, "PlayoutBuffer", rfl, by decide, u_X1, tn_1 206 rfl, rfl⟩
theorem v_X5_166 : ja_Cv RX5 166 yX5_acceptFrame cX5_acceptFrame 2 (some .int) 1 := ⟨tm_2 212 rfl rfl, tm_2 117 rfl rfl, tm_2 118 rfl rfl, tm_1 2 rfl rfl, tm_2 119 rfl rfl, by decide +kernel, by decide +kernel, by decide +kernel⟩
theorem f_X5_169 : ja_FdN RX5 169 1 2 := ⟨RX1, TX1, 5, "PlayoutBuffer", rfl, by decide, u_X1, tn_1 209 rfl, rfl⟩
theorem v_X5_172 : ja_Cv RX5 172 yX5_acceptPacket cX5_acceptPacket 4 (some .int) 3 := ⟨tm_2 213 rfl rfl, tm_2 189 rfl rfl, tm_2 190 rfl rfl, tm_1 2 rfl rfl, tm_2 191 rfl rfl, by decide +kernel, by decide +kernel, by decide +kernel⟩
theorem v_X5_176 : ja_Cv RX5 176 yX1_removeAllAt cX1_removeAllAt 4 none 1 := ⟨tm_2 214 rfl rfl, tm_2 215 rfl rfl, tm_2 216 rfl rfl, tm_1 8 rfl rfl, tm_2 217 rfl rfl, by decide +kernel, by decide +kernel, by decide +kernel⟩
theorem v_X5_179 : ja_Cv RX5 179 yX2_countConcealed cX2_countConcealed 1 none 0 := ⟨tm_2 230 rfl rfl, tm_2 231 rfl rfl, tm_2 232 rfl rfl, tm_1 7 rfl rfl, tm_2 233 rfl rfl, by decide +kernel, by decide +kernel, by decide +kernel⟩
theorem v_X5_182 : ja_Cv RX5 182 yX4_begin cX4_begin 2 none 1 := ⟨tm_2 237 rfl rfl, tm_2 238 rfl rfl, tm_2 239 rfl rfl, tm_1 6 rfl rfl, tm_3 0 rfl rfl, by decide +kernel, by decide +kernel, by decide +kernel⟩
theorem f_X5_185 : ja_Fd RX5 185 2 7 (.int) false := ⟨RX2, TX2, 9, tyX2, rfl, by decide, u_X2, tm_1 174 rfl rfl, rfl, tyX2_ok, nmX2, rfl, by decide +kernel⟩
theorem v_X5_188 : ja_Cv RX5 188 yX4_putConcealed cX4_putConcealed 6 none 2 := ⟨tm_3 1 rfl rfl, tm_3 2 rfl rfl, tm_3 3 rfl rfl, tm_1 6 rfl rfl, tm_3 4 rfl rfl, by decide +kernel, by decide +kernel, by decide +kernel⟩
theorem v_X5_192 : ja_Cv RX5 192 yX2_countKnown cX2_countKnown 2 none 1 := ⟨tm_3 28 rfl rfl, tm_3 29 rfl rfl, tm_3 30 rfl rfl, tm_1 7 rfl rfl, tm_3 31 rfl rfl, by decide +kernel, by decide +kernel, by decide +kernel⟩
theorem v_X5_195 : ja_Cv RX5 195 yX5_putKnown cX5_putKnown 4 none 1 := ⟨tm_3 32 rfl rfl, tm_3 34 rfl rfl, tm_0 8 rfl rfl, tm_1 2 rfl rfl, tm_3 35 rfl rfl, by decide +kernel, by decide +kernel, by decide +kernel⟩
theorem v_X5_198 : ja_Cv RX5 198 yX5_levelFrom cX5_levelFrom 2 (some .int) 1 := ⟨tm_3 36 rfl rfl, tm_3 37 rfl rfl, tm_3 38 rfl rfl, tm_1 2 rfl rfl, tm_3 39 rfl rfl, by decide +kernel, by decide +kernel, by decide +kernel⟩
theorem v_X5_201 : ja_Cv RX5 201 yX5_targetNow cX5_targetNow 1 (some .int) 0 := ⟨tm_3 45 rfl rfl, tm_3 46 rfl rfl, tm_3 47 rfl rfl, tm_1 2 rfl rfl, tm_3 48 rfl rfl, by decide +kernel, by decide +kernel, by decide +kernel⟩
theorem v_X5_204 : ja_Cv RX5 204 yX4_loadWave cX4_loadWave 4 none 2 := ⟨tm_3 53 rfl rfl, tm_3 54 rfl rfl, tm_3 55 rfl rfl, tm_1 6 rfl rfl, tm_3 56 rfl rfl, by decide +kernel, by decide +kernel, by decide +kernel⟩
theorem f_X5_207 : ja_Fd RX5 207 6 8 (.boolean) false := ⟨RX6, TX6, 9, tyX6, rfl, by decide, u_X6, tm_1 59 rfl rfl, rfl, tyX6_ok, nmX6, rfl, by decide +kernel⟩
theorem f_X5_210 : ja_Fd RX5 210 2 4 (.int) false := ⟨RX2, TX2, 9, tyX2, rfl, by decide, u_X2, tm_1 165 rfl rfl, rfl, tyX2_ok, nmX2, rfl, by decide +kernel⟩
theorem v_X5_213 : ja_Cv RX5 213 yX4_putCompressed cX4_putCompressed 4 none 1 := ⟨tm_3 61 rfl rfl, tm_3 62 rfl rfl, tm_3 63 rfl rfl, tm_1 6 rfl rfl, tm_3 64 rfl rfl, by decide +kernel, by decide +kernel, by decide +kernel⟩
theorem f_X5_216 : ja_Fd RX5 216 2 3 (.int) false := ⟨RX2, TX2, 9, tyX2, rfl, by decide, u_X2, tm_1 162 rfl rfl, rfl, tyX2_ok, nmX2, rfl, by decide +kernel⟩
theorem v_X5_219 : ja_Cv RX5 219 yX4_putStretched cX4_putStretched 4 none 1 := ⟨tm_3 69 rfl rfl, tm_3 70 rfl rfl, tm_3 71 rfl rfl, tm_1 6 rfl rfl, tm_3 72 rfl rfl, by decide +kernel, by decide +kernel, by decide +kernel⟩
theorem v_X5_222 : ja_Cv RX5 222 yX4_putAsItIs cX4_putAsItIs 2 none 1 := ⟨tm_3 73 rfl rfl, tm_3 74 rfl rfl, tm_3 75 rfl rfl, tm_1 6 rfl rfl, tm_3 76 rfl rfl, by decide +kernel, by decide +kernel, by decide +kernel⟩
theorem i_X6_3 : Cond.methodLink RX6 3 objectInit ∈ lw_tbg := tm_1 33 rfl rfl
theorem f_X6_9 : ja_Fd RX6 9 6 0 (.int) false := ⟨RX6, TX6, 9, tyX6, rfl, by decide, u_X6, tm_1 34 rfl rfl, rfl, tyX6_ok, nmX6, rfl, by decide +kernel⟩
theorem f_X6_15 : ja_Fd RX6 15 6 1 (.int) false := ⟨RX6, TX6, 9, tyX6, rfl, by decide, u_X6, tm_1 38 rfl rfl, rfl, tyX6_ok, nmX6, rfl, by decide +kernel⟩
theorem f_X6_18 : ja_Fd RX6 18 6 2 (.int) false := ⟨RX6, TX6, 9, tyX6, rfl, by decide, u_X6, tm_1 40 rfl rfl, rfl, tyX6_ok, nmX6, rfl, by decide +kernel⟩
theorem f_X6_21 : ja_Fd RX6 21 6 3 (.int) false := ⟨RX6, TX6, 9, tyX6, rfl, by decide, u_X6, tm_1 42 rfl rfl, rfl, tyX6_ok, nmX6, rfl, by decide +kernel⟩
theorem f_X6_24 : ja_Fd RX6 24 6 4 (.int) false := ⟨RX6, TX6, 9, tyX6, rfl, by decide, u_X6, tm_1 45 rfl rfl, rfl, tyX6_ok, nmX6, rfl, by decide +kernel⟩
theorem f_X6_27 : ja_Fd RX6 27 6 5 (.int) false := ⟨RX6, TX6, 9, tyX6, rfl, by decide, u_X6, tm_1 48 rfl rfl, rfl, tyX6_ok, nmX6, rfl, by decide +kernel⟩
theorem f_X6_30 : ja_Fd RX6 30 6 6 (.int) false := ⟨RX6, TX6, 9, tyX6, rfl, by decide, u_X6, tm_1 51 rfl rfl, rfl, tyX6_ok, nmX6, rfl, by decide +kernel⟩
theorem f_X6_33 : ja_Fd RX6 33 6 7 (.int) false := ⟨RX6, TX6, 9, tyX6, rfl, by decide, u_X6, tm_1 54 rfl rfl, rfl, tyX6_ok, nmX6, rfl, by decide +kernel⟩
theorem f_X6_36 : ja_Fd RX6 36 6 8 (.boolean) false := ⟨RX6, TX6, 9, tyX6, rfl, by decide, u_X6, tm_1 57 rfl rfl, rfl, tyX6_ok, nmX6, rfl, by decide +kernel⟩
theorem v_X6_40 : ja_Cv RX6 40 yX6_cells cX6_cells 1 (some .int) 0 := ⟨tm_2 187 rfl rfl, tm_2 125 rfl rfl, tm_2 126 rfl rfl, tm_1 3 rfl rfl, tm_2 127 rfl rfl, by decide +kernel, by decide +kernel, by decide +kernel⟩
theorem v_X6_44 : ja_Cv RX6 44 yX6_hasBlock cX6_hasBlock 2 (some .boolean) 1 := ⟨tm_2 183 rfl rfl, tm_2 184 rfl rfl, tm_2 185 rfl rfl, tm_1 3 rfl rfl, tm_2 186 rfl rfl, by decide +kernel, by decide +kernel, by decide +kernel⟩
theorem i_X7_1 : Cond.methodLink RX7 1 objectInit ∈ lw_tbg := tm_1 102 rfl rfl
theorem f_X7_9 : ja_Fd RX7 9 7 0 (.array .int) true := ⟨RX7, TX7, 4, tyX7, rfl, by decide, u_X7, tm_1 103 rfl rfl, rfl, tyX7_ok, nmX7, rfl, by decide +kernel⟩
theorem f_X7_13 : ja_Fd RX7 13 7 1 (.array .int) true := ⟨RX7, TX7, 4, tyX7, rfl, by decide, u_X7, tm_1 104 rfl rfl, rfl, tyX7_ok, nmX7, rfl, by decide +kernel⟩
theorem s_X7_16 : Cond.methodLink RX7 16 arraycopyName ∈ lw_tbg := tm_3 231 rfl rfl
theorem f_X7_22 : ja_Fd RX7 22 7 2 (.int) false := ⟨RX7, TX7, 4, tyX7, rfl, by decide, u_X7, tm_1 105 rfl rfl, rfl, tyX7_ok, nmX7, rfl, by decide +kernel⟩
theorem f_X7_26 : ja_Fd RX7 26 7 3 (.int) false := ⟨RX7, TX7, 4, tyX7, rfl, by decide, u_X7, tm_1 107 rfl rfl, rfl, tyX7_ok, nmX7, rfl, by decide +kernel⟩
theorem s_X7_29 : Cond.methodLink RX7 29 Lib.Math.min.name ∈ lw_tbg := tm_2 136 rfl rfl
theorem v_X7_35 : ja_Cv RX7 35 yX7_insert cX7_insert 4 none 2 := ⟨tm_2 139 rfl rfl, tm_2 141 rfl rfl, tm_0 1 rfl rfl, tm_1 5 rfl rfl, tm_2 142 rfl rfl, by decide +kernel, by decide +kernel, by decide +kernel⟩
theorem i_X8_1 : Cond.methodLink RX8 1 objectInit ∈ lw_tbg := tm_1 19 rfl rfl
theorem q_X8_7 : Cond.classLink RX8 7 RX5 ∈ lw_tbg := tm_1 22 rfl rfl
theorem n_X8_7 : ja_New RX8 7 5 9 [some .null, some .null, some .null, some .null, some .null, some .null, none, none, none] := ⟨RX5, TX5, tyX5, rfl, u_X5, tyX5_ok, tm_1 22 rfl rfl, tm_1 23 rfl rfl, tm_1 2 rfl rfl, fun j hj => by
  match j, hj with
  | 0, _ => rfl
  | 1, _ => rfl
  | 2, _ => rfl
  | 3, _ => rfl
  | 4, _ => rfl
  | 5, _ => rfl
  | 6, _ => rfl
  | 7, _ => rfl
  | 8, _ => rfl⟩
theorem i_X8_9 : ja_CiN RX8 9 yX5_init cX5_init 1 0 := ⟨⟨"PlayoutBuffer", tn_1 24 rfl⟩, tm_1 25 rfl rfl, tm_1 2 rfl rfl, tm_1 26 rfl rfl, by decide +kernel, by decide +kernel, by decide +kernel, by decide +kernel⟩
theorem f_X8_10 : ja_Fd RX8 10 8 0 (.object "PlayoutBuffer$Receiver") true := ⟨RX8, TX8, 5, tyX8, rfl, by decide, u_X8, tm_2 61 rfl rfl, rfl, tyX8_ok, nmX8, rfl, by decide +kernel⟩
theorem f_X8_16 : ja_Fd RX8 16 8 1 (.object "PlayoutBuffer$Receiver") true := ⟨RX8, TX8, 5, tyX8, rfl, by decide, u_X8, tm_2 62 rfl rfl, rfl, tyX8_ok, nmX8, rfl, by decide +kernel⟩
theorem f_X8_19 : ja_Fd RX8 19 8 2 (.array (.object "PlayoutBuffer$Receiver")) true := ⟨RX8, TX8, 5, tyX8, rfl, by decide, u_X8, tm_2 63 rfl rfl, rfl, tyX8_ok, nmX8, rfl, by decide +kernel⟩
theorem n_X8_23 : ja_New RX8 23 0 8 [some .null, none, none, none, none, none, none, none] := ⟨RX0, TX0, tyX0, rfl, u_X0, tyX0_ok, tm_2 27 rfl rfl, tm_2 28 rfl rfl, tm_1 9 rfl rfl, fun j hj => by
  match j, hj with
  | 0, _ => rfl
  | 1, _ => rfl
  | 2, _ => rfl
  | 3, _ => rfl
  | 4, _ => rfl
  | 5, _ => rfl
  | 6, _ => rfl
  | 7, _ => rfl⟩
theorem i_X8_25 : ja_CiN RX8 25 yX0_init cX0_init 1 0 := ⟨⟨"PlayoutBuffer", tn_2 29 rfl⟩, tm_2 30 rfl rfl, tm_1 9 rfl rfl, tm_2 31 rfl rfl, by decide +kernel, by decide +kernel, by decide +kernel, by decide +kernel⟩
theorem f_X8_26 : ja_Fd RX8 26 8 3 (.object "PlayoutBuffer$ArrivalText") true := ⟨RX8, TX8, 5, tyX8, rfl, by decide, u_X8, tm_2 64 rfl rfl, rfl, tyX8_ok, nmX8, rfl, by decide +kernel⟩
theorem n_X8_30 : ja_New RX8 30 1 5 [some .null, some .null, some .null, some .null, none] := ⟨RX1, TX1, tyX1, rfl, u_X1, tyX1_ok, tm_2 59 rfl rfl, tm_1 197 rfl rfl, tm_1 8 rfl rfl, fun j hj => by
  match j, hj with
  | 0, _ => rfl
  | 1, _ => rfl
  | 2, _ => rfl
  | 3, _ => rfl
  | 4, _ => rfl⟩
theorem i_X8_32 : ja_CiN RX8 32 yX1_init cX1_init 1 0 := ⟨⟨"PlayoutBuffer", tn_2 60 rfl⟩, tm_1 199 rfl rfl, tm_1 8 rfl rfl, tm_1 200 rfl rfl, by decide +kernel, by decide +kernel, by decide +kernel, by decide +kernel⟩
theorem f_X8_33 : ja_Fd RX8 33 8 4 (.object "PlayoutBuffer$Arrivals") true := ⟨RX8, TX8, 5, tyX8, rfl, by decide, u_X8, tm_2 65 rfl rfl, rfl, tyX8_ok, nmX8, rfl, by decide +kernel⟩
theorem v_X8_39 : ja_Cv RX8 39 yX5_hasBegun cX5_hasBegun 1 (some .boolean) 0 := ⟨tm_2 81 rfl rfl, tm_2 82 rfl rfl, tm_2 83 rfl rfl, tm_1 2 rfl rfl, tm_2 84 rfl rfl, by decide +kernel, by decide +kernel, by decide +kernel⟩
theorem f_X8_43 : ja_Fd RX8 43 5 0 (.object "PlayoutBuffer$Settings") true := ⟨RX5, TX5, 9, tyX5, rfl, by decide, u_X5, tm_1 230 rfl rfl, rfl, tyX5_ok, nmX5, rfl, by decide +kernel⟩
theorem f_X8_47 : ja_Fd RX8 47 6 0 (.int) false := ⟨RX6, TX6, 9, tyX6, rfl, by decide, u_X6, tm_1 35 rfl rfl, rfl, tyX6_ok, nmX6, rfl, by decide +kernel⟩
theorem f_X8_51 : ja_Fd RX8 51 6 1 (.int) false := ⟨RX6, TX6, 9, tyX6, rfl, by decide, u_X6, tm_1 39 rfl rfl, rfl, tyX6_ok, nmX6, rfl, by decide +kernel⟩
theorem f_X8_54 : ja_Fd RX8 54 6 2 (.int) false := ⟨RX6, TX6, 9, tyX6, rfl, by decide, u_X6, tm_1 41 rfl rfl, rfl, tyX6_ok, nmX6, rfl, by decide +kernel⟩
theorem f_X8_57 : ja_Fd RX8 57 6 3 (.int) false := ⟨RX6, TX6, 9, tyX6, rfl, by decide, u_X6, tm_1 43 rfl rfl, rfl, tyX6_ok, nmX6, rfl, by decide +kernel⟩
theorem f_X8_60 : ja_Fd RX8 60 6 4 (.int) false := ⟨RX6, TX6, 9, tyX6, rfl, by decide, u_X6, tm_1 46 rfl rfl, rfl, tyX6_ok, nmX6, rfl, by decide +kernel⟩
theorem f_X8_63 : ja_Fd RX8 63 6 5 (.int) false := ⟨RX6, TX6, 9, tyX6, rfl, by decide, u_X6, tm_1 49 rfl rfl, rfl, tyX6_ok, nmX6, rfl, by decide +kernel⟩
theorem f_X8_66 : ja_Fd RX8 66 6 6 (.int) false := ⟨RX6, TX6, 9, tyX6, rfl, by decide, u_X6, tm_1 53 rfl rfl, rfl, tyX6_ok, nmX6, rfl, by decide +kernel⟩
theorem f_X8_69 : ja_Fd RX8 69 6 7 (.int) false := ⟨RX6, TX6, 9, tyX6, rfl, by decide, u_X6, tm_1 56 rfl rfl, rfl, tyX6_ok, nmX6, rfl, by decide +kernel⟩
theorem f_X8_72 : ja_Fd RX8 72 6 8 (.boolean) false := ⟨RX6, TX6, 9, tyX6, rfl, by decide, u_X6, tm_1 58 rfl rfl, rfl, tyX6_ok, nmX6, rfl, by decide +kernel⟩
theorem s_X8_76 : ja_Cs RX8 76 yX8_isFrame cX8_isFrame 1 (some .boolean) 1 := ⟨tm_2 113 rfl rfl, tm_2 114 rfl rfl, tm_1 1 rfl rfl, tm_2 115 rfl rfl, by decide +kernel, by decide +kernel, by decide +kernel⟩
theorem v_X8_80 : ja_Cv RX8 80 yX5_acceptFrame cX5_acceptFrame 2 (some .int) 1 := ⟨tm_2 116 rfl rfl, tm_2 117 rfl rfl, tm_2 118 rfl rfl, tm_1 2 rfl rfl, tm_2 119 rfl rfl, by decide +kernel, by decide +kernel, by decide +kernel⟩
theorem v_X8_84 : ja_Cv RX8 84 yX6_hasPacket cX6_hasPacket 4 (some .boolean) 3 := ⟨tm_2 179 rfl rfl, tm_2 180 rfl rfl, tm_2 181 rfl rfl, tm_1 3 rfl rfl, tm_2 182 rfl rfl, by decide +kernel, by decide +kernel, by decide +kernel⟩
theorem v_X8_88 : ja_Cv RX8 88 yX5_acceptPacket cX5_acceptPacket 4 (some .int) 3 := ⟨tm_2 188 rfl rfl, tm_2 189 rfl rfl, tm_2 190 rfl rfl, tm_1 2 rfl rfl, tm_2 191 rfl rfl, by decide +kernel, by decide +kernel, by decide +kernel⟩
theorem f_X8_92 : ja_Fd RX8 92 5 3 (.object "PlayoutBuffer$Player") true := ⟨RX5, TX5, 9, tyX5, rfl, by decide, u_X5, tm_1 236 rfl rfl, rfl, tyX5_ok, nmX5, rfl, by decide +kernel⟩
theorem f_X8_96 : ja_Fd RX8 96 4 4 (.int) false := ⟨RX4, TX4, 8, tyX4, rfl, by decide, u_X4, tm_1 128 rfl rfl, rfl, tyX4_ok, nmX4, rfl, by decide +kernel⟩
theorem v_X8_101 : ja_Cv RX8 101 yX5_passTick cX5_passTick 1 none 0 := ⟨tm_2 204 rfl rfl, tm_2 205 rfl rfl, tm_2 206 rfl rfl, tm_1 2 rfl rfl, tm_2 207 rfl rfl, by decide +kernel, by decide +kernel, by decide +kernel⟩
theorem f_X8_104 : ja_Fd RX8 104 5 6 (.int) false := ⟨RX5, TX5, 9, tyX5, rfl, by decide, u_X5, tm_2 2 rfl rfl, rfl, tyX5_ok, nmX5, rfl, by decide +kernel⟩
theorem f_X8_107 : ja_Fd RX8 107 5 7 (.boolean) false := ⟨RX5, TX5, 9, tyX5, rfl, by decide, u_X5, tm_2 4 rfl rfl, rfl, tyX5_ok, nmX5, rfl, by decide +kernel⟩
theorem f_X8_110 : ja_Fd RX8 110 5 8 (.int) false := ⟨RX5, TX5, 9, tyX5, rfl, by decide, u_X5, tm_2 6 rfl rfl, rfl, tyX5_ok, nmX5, rfl, by decide +kernel⟩
theorem v_X8_113 : ja_Cv RX8 113 yX4_outputAt cX4_outputAt 2 (some .int) 1 := ⟨tm_3 93 rfl rfl, tm_3 7 rfl rfl, tm_3 8 rfl rfl, tm_1 6 rfl rfl, tm_3 9 rfl rfl, by decide +kernel, by decide +kernel, by decide +kernel⟩
theorem v_X8_116 : ja_Cv RX8 116 yX4_remaining cX4_remaining 1 (some .int) 0 := ⟨tm_3 102 rfl rfl, tm_2 223 rfl rfl, tm_2 224 rfl rfl, tm_1 6 rfl rfl, tm_2 225 rfl rfl, by decide +kernel, by decide +kernel, by decide +kernel⟩
theorem f_X8_120 : ja_Fd RX8 120 4 6 (.int) false := ⟨RX4, TX4, 8, tyX4, rfl, by decide, u_X4, tm_1 132 rfl rfl, rfl, tyX4_ok, nmX4, rfl, by decide +kernel⟩
theorem v_X8_123 : ja_Cv RX8 123 yX4_kindAt cX4_kindAt 2 (some .int) 1 := ⟨tm_3 111 rfl rfl, tm_3 112 rfl rfl, tm_3 113 rfl rfl, tm_1 6 rfl rfl, tm_3 114 rfl rfl, by decide +kernel, by decide +kernel, by decide +kernel⟩
theorem f_X8_126 : ja_Fd RX8 126 5 1 (.object "PlayoutBuffer$Frames") true := ⟨RX5, TX5, 9, tyX5, rfl, by decide, u_X5, tm_1 232 rfl rfl, rfl, tyX5_ok, nmX5, rfl, by decide +kernel⟩
theorem v_X8_130 : ja_Cv RX8 130 yX3_stateOf cX3_stateOf 5 (some .int) 2 := ⟨tm_3 119 rfl rfl, tm_2 121 rfl rfl, tm_2 122 rfl rfl, tm_1 4 rfl rfl, tm_2 123 rfl rfl, by decide +kernel, by decide +kernel, by decide +kernel⟩
theorem v_X8_136 : ja_Cv RX8 136 yX6_waveAt cX6_waveAt 4 (some .int) 2 := ⟨tm_3 124 rfl rfl, tm_3 58 rfl rfl, tm_3 59 rfl rfl, tm_1 3 rfl rfl, tm_3 60 rfl rfl, by decide +kernel, by decide +kernel, by decide +kernel⟩
theorem v_X8_140 : ja_Cv RX8 140 yX3_missingIn cX3_missingIn 5 (some .int) 4 := ⟨tm_3 129 rfl rfl, tm_3 130 rfl rfl, tm_3 131 rfl rfl, tm_1 4 rfl rfl, tm_3 132 rfl rfl, by decide +kernel, by decide +kernel, by decide +kernel⟩
theorem v_X8_144 : ja_Cv RX8 144 yX6_hasBlock cX6_hasBlock 2 (some .boolean) 1 := ⟨tm_3 137 rfl rfl, tm_2 184 rfl rfl, tm_2 185 rfl rfl, tm_1 3 rfl rfl, tm_2 186 rfl rfl, by decide +kernel, by decide +kernel, by decide +kernel⟩
theorem v_X8_147 : ja_Cv RX8 147 yX3_unrestorableIn cX3_unrestorableIn 5 (some .int) 2 := ⟨tm_3 138 rfl rfl, tm_3 139 rfl rfl, tm_3 140 rfl rfl, tm_1 4 rfl rfl, tm_3 141 rfl rfl, by decide +kernel, by decide +kernel, by decide +kernel⟩
theorem v_X8_150 : ja_Cv RX8 150 yX6_coveredFrame cX6_coveredFrame 6 (some .int) 4 := ⟨tm_3 146 rfl rfl, tm_3 147 rfl rfl, tm_3 148 rfl rfl, tm_1 3 rfl rfl, tm_3 149 rfl rfl, by decide +kernel, by decide +kernel, by decide +kernel⟩
theorem f_X8_154 : ja_Fd RX8 154 5 2 (.object "PlayoutBuffer$Transits") true := ⟨RX5, TX5, 9, tyX5, rfl, by decide, u_X5, tm_1 234 rfl rfl, rfl, tyX5_ok, nmX5, rfl, by decide +kernel⟩
theorem f_X8_158 : ja_Fd RX8 158 7 2 (.int) false := ⟨RX7, TX7, 4, tyX7, rfl, by decide, u_X7, tm_1 106 rfl rfl, rfl, tyX7_ok, nmX7, rfl, by decide +kernel⟩
theorem v_X8_163 : ja_Cv RX8 163 yX7_ascendingAt cX7_ascendingAt 2 (some .int) 1 := ⟨tm_3 158 rfl rfl, tm_3 159 rfl rfl, tm_3 160 rfl rfl, tm_1 5 rfl rfl, tm_3 161 rfl rfl, by decide +kernel, by decide +kernel, by decide +kernel⟩
theorem s_X8_166 : Cond.methodLink RX8 166 Lib.Math.max.name ∈ lw_tbg := tm_3 162 rfl rfl
theorem v_X8_171 : ja_Cv RX8 171 yX5_targetNow cX5_targetNow 1 (some .int) 0 := ⟨tm_3 167 rfl rfl, tm_3 46 rfl rfl, tm_3 47 rfl rfl, tm_1 2 rfl rfl, tm_3 48 rfl rfl, by decide +kernel, by decide +kernel, by decide +kernel⟩
theorem v_X8_174 : ja_Cv RX8 174 yX5_levelFrom cX5_levelFrom 2 (some .int) 1 := ⟨tm_3 172 rfl rfl, tm_3 37 rfl rfl, tm_3 38 rfl rfl, tm_1 2 rfl rfl, tm_3 39 rfl rfl, by decide +kernel, by decide +kernel, by decide +kernel⟩
theorem f_X8_177 : ja_Fd RX8 177 5 4 (.object "PlayoutBuffer$Counters") true := ⟨RX5, TX5, 9, tyX5, rfl, by decide, u_X5, tm_1 238 rfl rfl, rfl, tyX5_ok, nmX5, rfl, by decide +kernel⟩
theorem v_X8_181 : ja_Cv RX8 181 yX2_takenAs cX2_takenAs 2 (some .int) 1 := ⟨tm_3 177 rfl rfl, tm_3 178 rfl rfl, tm_3 179 rfl rfl, tm_1 7 rfl rfl, tm_3 180 rfl rfl, by decide +kernel, by decide +kernel, by decide +kernel⟩
theorem f_X8_186 : ja_Fd RX8 186 2 3 (.int) false := ⟨RX2, TX2, 9, tyX2, rfl, by decide, u_X2, tm_1 163 rfl rfl, rfl, tyX2_ok, nmX2, rfl, by decide +kernel⟩
theorem f_X8_189 : ja_Fd RX8 189 2 4 (.int) false := ⟨RX2, TX2, 9, tyX2, rfl, by decide, u_X2, tm_1 166 rfl rfl, rfl, tyX2_ok, nmX2, rfl, by decide +kernel⟩
theorem f_X8_192 : ja_Fd RX8 192 2 5 (.int) false := ⟨RX2, TX2, 9, tyX2, rfl, by decide, u_X2, tm_1 169 rfl rfl, rfl, tyX2_ok, nmX2, rfl, by decide +kernel⟩
theorem f_X8_195 : ja_Fd RX8 195 2 6 (.int) false := ⟨RX2, TX2, 9, tyX2, rfl, by decide, u_X2, tm_1 172 rfl rfl, rfl, tyX2_ok, nmX2, rfl, by decide +kernel⟩
theorem f_X8_198 : ja_Fd RX8 198 2 2 (.int) false := ⟨RX2, TX2, 9, tyX2, rfl, by decide, u_X2, tm_1 160 rfl rfl, rfl, tyX2_ok, nmX2, rfl, by decide +kernel⟩
theorem s_X8_201 : ja_Cs RX8 201 yX8_commonDivisor cX8_commonDivisor 6 (some .int) 2 := ⟨tm_3 201 rfl rfl, tm_3 202 rfl rfl, tm_1 1 rfl rfl, tm_3 203 rfl rfl, by decide +kernel, by decide +kernel, by decide +kernel⟩
theorem f_X8_204 : ja_Fd RX8 204 2 8 (.int) false := ⟨RX2, TX2, 9, tyX2, rfl, by decide, u_X2, tm_1 176 rfl rfl, rfl, tyX2_ok, nmX2, rfl, by decide +kernel⟩
theorem v_X8_207 : ja_Cv RX8 207 yX5_copyFrom cX5_copyFrom 2 none 1 := ⟨tm_3 212 rfl rfl, tm_3 213 rfl rfl, tm_3 214 rfl rfl, tm_1 2 rfl rfl, tm_3 215 rfl rfl, by decide +kernel, by decide +kernel, by decide +kernel⟩
theorem f_X8_211 : ja_Fd RX8 211 0 1 (.int) false := ⟨RX0, TX0, 8, tyX0, rfl, by decide, u_X0, tm_2 35 rfl rfl, rfl, tyX0_ok, nmX0, rfl, by decide +kernel⟩
theorem v_X8_214 : ja_Cv RX8 214 yX0_write cX0_write 2 none 1 := ⟨tm_4 21 rfl rfl, tm_4 22 rfl rfl, tm_4 23 rfl rfl, tm_1 9 rfl rfl, tm_4 24 rfl rfl, by decide +kernel, by decide +kernel, by decide +kernel⟩
theorem v_X8_218 : ja_Cv RX8 218 yX0_readInto cX0_readInto 3 (some .int) 1 := ⟨tm_4 33 rfl rfl, tm_4 34 rfl rfl, tm_4 35 rfl rfl, tm_1 9 rfl rfl, tm_4 36 rfl rfl, by decide +kernel, by decide +kernel, by decide +kernel⟩
theorem f_X8_222 : ja_Fd RX8 222 1 4 (.int) false := ⟨RX1, TX1, 5, tyX1, rfl, by decide, u_X1, tm_1 217 rfl rfl, rfl, tyX1_ok, nmX1, rfl, by decide +kernel⟩
theorem v_X8_225 : ja_Cv RX8 225 yX8_canArrive cX8_canArrive 3 (some .boolean) 1 := ⟨tm_4 62 rfl rfl, tm_4 64 rfl rfl, tm_0 15 rfl rfl, tm_1 1 rfl rfl, tm_4 65 rfl rfl, by decide +kernel, by decide +kernel, by decide +kernel⟩
theorem f_X8_228 : ja_Fd RX8 228 5 5 (.object "PlayoutBuffer$Arrivals") true := ⟨RX5, TX5, 9, tyX5, rfl, by decide, u_X5, tm_2 0 rfl rfl, rfl, tyX5_ok, nmX5, rfl, by decide +kernel⟩
theorem v_X8_231 : ja_Cv RX8 231 yX1_addAll cX1_addAll 3 none 1 := ⟨tm_4 66 rfl rfl, tm_4 6 rfl rfl, tm_4 7 rfl rfl, tm_1 8 rfl rfl, tm_4 8 rfl rfl, by decide +kernel, by decide +kernel, by decide +kernel⟩
theorem l_X8_235 : Cond.constantLong RX8 235 (41) ∈ lw_tbg := tm_4 83 rfl rfl
theorem l_X8_237 : Cond.constantLong RX8 237 (31) ∈ lw_tbg := tm_4 84 rfl rfl
theorem v_X8_239 : ja_Cv RX8 239 yX8_time cX8_time 1 (some .int) 0 := ⟨tm_4 85 rfl rfl, tm_3 82 rfl rfl, tm_3 83 rfl rfl, tm_1 1 rfl rfl, tm_3 84 rfl rfl, by decide +kernel, by decide +kernel, by decide +kernel⟩
theorem v_X8_241 : ja_Cv RX8 241 yX8_start cX8_start 1 (some .int) 0 := ⟨tm_4 86 rfl rfl, tm_3 86 rfl rfl, tm_3 87 rfl rfl, tm_1 1 rfl rfl, tm_3 88 rfl rfl, by decide +kernel, by decide +kernel, by decide +kernel⟩
theorem v_X8_243 : ja_Cv RX8 243 yX8_outputs cX8_outputs 1 (some .int) 0 := ⟨tm_4 87 rfl rfl, tm_3 95 rfl rfl, tm_3 96 rfl rfl, tm_1 1 rfl rfl, tm_3 97 rfl rfl, by decide +kernel, by decide +kernel, by decide +kernel⟩
theorem v_X8_245 : ja_Cv RX8 245 yX8_left cX8_left 1 (some .int) 0 := ⟨tm_4 88 rfl rfl, tm_3 99 rfl rfl, tm_3 100 rfl rfl, tm_1 1 rfl rfl, tm_3 101 rfl rfl, by decide +kernel, by decide +kernel, by decide +kernel⟩
theorem v_X8_248 : ja_Cv RX8 248 yX8_next cX8_next 1 (some .int) 0 := ⟨tm_4 89 rfl rfl, tm_3 104 rfl rfl, tm_3 105 rfl rfl, tm_1 1 rfl rfl, tm_3 106 rfl rfl, by decide +kernel, by decide +kernel, by decide +kernel⟩
theorem v_X8_250 : ja_Cv RX8 250 yX8_target cX8_target 1 (some .int) 0 := ⟨tm_4 90 rfl rfl, tm_3 164 rfl rfl, tm_3 165 rfl rfl, tm_1 1 rfl rfl, tm_3 166 rfl rfl, by decide +kernel, by decide +kernel, by decide +kernel⟩
theorem v_X8_253 : ja_Cv RX8 253 yX8_level cX8_level 1 (some .int) 0 := ⟨tm_4 91 rfl rfl, tm_3 169 rfl rfl, tm_3 170 rfl rfl, tm_1 1 rfl rfl, tm_3 171 rfl rfl, by decide +kernel, by decide +kernel, by decide +kernel⟩
theorem v_X8_256 : ja_Cv RX8 256 yX8_transits cX8_transits 1 (some .int) 0 := ⟨tm_4 92 rfl rfl, tm_3 151 rfl rfl, tm_3 152 rfl rfl, tm_1 1 rfl rfl, tm_3 153 rfl rfl, by decide +kernel, by decide +kernel, by decide +kernel⟩
theorem v_X8_258 : ja_Cv RX8 258 yX8_taken cX8_taken 2 (some .int) 1 := ⟨tm_4 93 rfl rfl, tm_3 174 rfl rfl, tm_3 175 rfl rfl, tm_1 1 rfl rfl, tm_3 176 rfl rfl, by decide +kernel, by decide +kernel, by decide +kernel⟩
theorem v_X8_261 : ja_Cv RX8 261 yX8_stretched cX8_stretched 1 (some .int) 0 := ⟨tm_4 94 rfl rfl, tm_3 182 rfl rfl, tm_3 183 rfl rfl, tm_1 1 rfl rfl, tm_3 184 rfl rfl, by decide +kernel, by decide +kernel, by decide +kernel⟩
theorem v_X8_263 : ja_Cv RX8 263 yX8_compressed cX8_compressed 1 (some .int) 0 := ⟨tm_4 95 rfl rfl, tm_3 186 rfl rfl, tm_3 187 rfl rfl, tm_1 1 rfl rfl, tm_3 188 rfl rfl, by decide +kernel, by decide +kernel, by decide +kernel⟩
theorem v_X8_265 : ja_Cv RX8 265 yX8_late cX8_late 1 (some .int) 0 := ⟨tm_4 96 rfl rfl, tm_3 190 rfl rfl, tm_3 191 rfl rfl, tm_1 1 rfl rfl, tm_3 192 rfl rfl, by decide +kernel, by decide +kernel, by decide +kernel⟩
theorem v_X8_267 : ja_Cv RX8 267 yX8_duplicates cX8_duplicates 1 (some .int) 0 := ⟨tm_4 97 rfl rfl, tm_3 194 rfl rfl, tm_3 195 rfl rfl, tm_1 1 rfl rfl, tm_3 196 rfl rfl, by decide +kernel, by decide +kernel, by decide +kernel⟩
theorem v_X8_269 : ja_Cv RX8 269 yX8_longestGap cX8_longestGap 1 (some .int) 0 := ⟨tm_4 98 rfl rfl, tm_3 205 rfl rfl, tm_3 206 rfl rfl, tm_1 1 rfl rfl, tm_3 207 rfl rfl, by decide +kernel, by decide +kernel, by decide +kernel⟩
theorem v_X8_271 : ja_Cv RX8 271 yX8_scheduled cX8_scheduled 1 (some .int) 0 := ⟨tm_4 99 rfl rfl, tm_4 68 rfl rfl, tm_4 69 rfl rfl, tm_1 1 rfl rfl, tm_4 70 rfl rfl, by decide +kernel, by decide +kernel, by decide +kernel⟩
theorem v_X8_274 : ja_Cv RX8 274 yX8_output cX8_output 2 (some .int) 1 := ⟨tm_4 100 rfl rfl, tm_3 90 rfl rfl, tm_3 91 rfl rfl, tm_1 1 rfl rfl, tm_3 92 rfl rfl, by decide +kernel, by decide +kernel, by decide +kernel⟩
theorem v_X8_277 : ja_Cv RX8 277 yX8_kind cX8_kind 2 (some .int) 1 := ⟨tm_4 101 rfl rfl, tm_3 108 rfl rfl, tm_3 109 rfl rfl, tm_1 1 rfl rfl, tm_3 110 rfl rfl, by decide +kernel, by decide +kernel, by decide +kernel⟩
theorem v_X8_280 : ja_Cv RX8 280 yX8_state cX8_state 2 (some .int) 1 := ⟨tm_4 102 rfl rfl, tm_3 116 rfl rfl, tm_3 117 rfl rfl, tm_1 1 rfl rfl, tm_3 118 rfl rfl, by decide +kernel, by decide +kernel, by decide +kernel⟩
theorem f_X8_283 : ja_FdN RX8 283 1 3 := ⟨RX1, TX1, 5, "PlayoutBuffer", rfl, by decide, u_X1, tn_1 213 rfl, rfl⟩
theorem f_X8_287 : ja_FdN RX8 287 1 1 := ⟨RX1, TX1, 5, "PlayoutBuffer", rfl, by decide, u_X1, tn_1 207 rfl, rfl⟩
theorem f_X8_290 : ja_FdN RX8 290 1 0 := ⟨RX1, TX1, 5, "PlayoutBuffer", rfl, by decide, u_X1, tn_1 204 rfl, rfl⟩
theorem f_X8_293 : ja_FdN RX8 293 1 2 := ⟨RX1, TX1, 5, "PlayoutBuffer", rfl, by decide, u_X1, tn_1 210 rfl, rfl⟩
theorem i_X9_1 : Cond.methodLink RX9 1 objectInit ∈ lw_tbg := tm_4 108 rfl rfl
theorem f_X9_7 : ja_Fd RX9 7 9 0 (.array .int) true := ⟨RX9, TX9, 11, tyX9, rfl, by decide, u_X9, tm_4 109 rfl rfl, rfl, tyX9_ok, nmX9, rfl, by decide +kernel⟩
theorem f_X9_13 : ja_Fd RX9 13 9 1 (.array .int) true := ⟨RX9, TX9, 11, tyX9, rfl, by decide, u_X9, tm_4 110 rfl rfl, rfl, tyX9_ok, nmX9, rfl, by decide +kernel⟩
theorem f_X9_16 : ja_Fd RX9 16 9 2 (.array .int) true := ⟨RX9, TX9, 11, tyX9, rfl, by decide, u_X9, tm_4 111 rfl rfl, rfl, tyX9_ok, nmX9, rfl, by decide +kernel⟩
theorem f_X9_19 : ja_Fd RX9 19 9 3 (.array .boolean) true := ⟨RX9, TX9, 11, tyX9, rfl, by decide, u_X9, tm_4 112 rfl rfl, rfl, tyX9_ok, nmX9, rfl, by decide +kernel⟩
theorem f_X9_23 : ja_Fd RX9 23 9 4 (.array .int) true := ⟨RX9, TX9, 11, tyX9, rfl, by decide, u_X9, tm_4 113 rfl rfl, rfl, tyX9_ok, nmX9, rfl, by decide +kernel⟩
theorem f_X9_26 : ja_Fd RX9 26 9 6 (.array .int) true := ⟨RX9, TX9, 11, tyX9, rfl, by decide, u_X9, tm_4 115 rfl rfl, rfl, tyX9_ok, nmX9, rfl, by decide +kernel⟩
theorem f_X9_29 : ja_Fd RX9 29 9 7 (.array .int) true := ⟨RX9, TX9, 11, tyX9, rfl, by decide, u_X9, tm_4 116 rfl rfl, rfl, tyX9_ok, nmX9, rfl, by decide +kernel⟩
theorem f_X9_32 : ja_Fd RX9 32 9 8 (.array .int) true := ⟨RX9, TX9, 11, tyX9, rfl, by decide, u_X9, tm_4 117 rfl rfl, rfl, tyX9_ok, nmX9, rfl, by decide +kernel⟩
theorem s_X9_35 : ja_Cs RX9 35 yX9_in cX9_in 3 (some .boolean) 3 := ⟨tm_4 148 rfl rfl, tm_4 149 rfl rfl, tm_1 10 rfl rfl, tm_4 150 rfl rfl, by decide +kernel, by decide +kernel, by decide +kernel⟩
theorem v_X9_39 : ja_Cv RX9 39 yX9_isBegun cX9_isBegun 1 (some .boolean) 0 := ⟨tm_4 151 rfl rfl, tm_4 153 rfl rfl, tm_0 16 rfl rfl, tm_1 10 rfl rfl, tm_4 154 rfl rfl, by decide +kernel, by decide +kernel, by decide +kernel⟩
theorem v_X9_43 : ja_Cv RX9 43 yX9_put cX9_put 4 (some .int) 2 := ⟨tm_4 155 rfl rfl, tm_4 157 rfl rfl, tm_0 17 rfl rfl, tm_1 10 rfl rfl, tm_4 158 rfl rfl, by decide +kernel, by decide +kernel, by decide +kernel⟩
theorem v_X9_47 : ja_Cv RX9 47 yX9_area cX9_area 1 (some .int) 0 := ⟨tm_4 206 rfl rfl, tm_4 208 rfl rfl, tm_0 22 rfl rfl, tm_1 10 rfl rfl, tm_4 209 rfl rfl, by decide +kernel, by decide +kernel, by decide +kernel⟩
theorem v_X9_51 : ja_Cv RX9 51 yX9_covers cX9_covers 2 (some .int) 1 := ⟨tm_4 226 rfl rfl, tm_4 228 rfl rfl, tm_0 27 rfl rfl, tm_1 10 rfl rfl, tm_4 229 rfl rfl, by decide +kernel, by decide +kernel, by decide +kernel⟩
theorem v_X9_55 : ja_Cv RX9 55 yX9_covered cX9_covered 5 (some .int) 4 := ⟨tm_4 230 rfl rfl, tm_4 232 rfl rfl, tm_0 28 rfl rfl, tm_1 10 rfl rfl, tm_4 233 rfl rfl, by decide +kernel, by decide +kernel, by decide +kernel⟩
theorem v_X9_59 : ja_Cv RX9 59 yX9_isKnown cX9_isKnown 2 (some .boolean) 1 := ⟨tm_4 194 rfl rfl, tm_4 196 rfl rfl, tm_0 19 rfl rfl, tm_1 10 rfl rfl, tm_4 197 rfl rfl, by decide +kernel, by decide +kernel, by decide +kernel⟩
theorem v_X9_63 : ja_Cv RX9 63 yX9_missingOf cX9_missingOf 6 (some .int) 3 := ⟨tm_4 222 rfl rfl, tm_4 224 rfl rfl, tm_0 26 rfl rfl, tm_1 10 rfl rfl, tm_4 225 rfl rfl, by decide +kernel, by decide +kernel, by decide +kernel⟩
theorem v_X9_67 : ja_Cv RX9 67 yX9_packet cX9_packet 4 (some .int) 3 := ⟨tm_4 214 rfl rfl, tm_4 216 rfl rfl, tm_0 24 rfl rfl, tm_1 10 rfl rfl, tm_4 217 rfl rfl, by decide +kernel, by decide +kernel, by decide +kernel⟩
theorem v_X9_70 : ja_Cv RX9 70 yX9_restoresBy cX9_restoresBy 6 (some .int) 3 := ⟨tm_4 218 rfl rfl, tm_4 220 rfl rfl, tm_0 25 rfl rfl, tm_1 10 rfl rfl, tm_4 221 rfl rfl, by decide +kernel, by decide +kernel, by decide +kernel⟩
theorem v_X9_73 : ja_Cv RX9 73 yX9_begins cX9_begins 1 none 0 := ⟨tm_4 198 rfl rfl, tm_4 200 rfl rfl, tm_0 20 rfl rfl, tm_1 10 rfl rfl, tm_4 201 rfl rfl, by decide +kernel, by decide +kernel, by decide +kernel⟩
theorem v_X9_76 : ja_Cv RX9 76 yX9_sees cX9_sees 3 none 1 := ⟨tm_4 202 rfl rfl, tm_4 204 rfl rfl, tm_0 21 rfl rfl, tm_1 10 rfl rfl, tm_4 205 rfl rfl, by decide +kernel, by decide +kernel, by decide +kernel⟩
theorem v_X9_80 : ja_Cv RX9 80 yX9_restores cX9_restores 6 (some .int) 2 := ⟨tm_4 210 rfl rfl, tm_4 212 rfl rfl, tm_0 23 rfl rfl, tm_1 10 rfl rfl, tm_4 213 rfl rfl, by decide +kernel, by decide +kernel, by decide +kernel⟩
theorem s_X9_84 : ja_Cs RX9 84 yX9_isFrame cX9_isFrame 1 (some .boolean) 1 := ⟨tm_4 187 rfl rfl, tm_4 188 rfl rfl, tm_1 10 rfl rfl, tm_4 189 rfl rfl, by decide +kernel, by decide +kernel, by decide +kernel⟩
theorem v_X9_87 : ja_Cv RX9 87 yX9_arrives cX9_arrives 2 (some .int) 1 := ⟨tm_4 190 rfl rfl, tm_4 192 rfl rfl, tm_0 18 rfl rfl, tm_1 10 rfl rfl, tm_4 193 rfl rfl, by decide +kernel, by decide +kernel, by decide +kernel⟩
theorem v_X9_91 : ja_Cv RX9 91 yX9_isPacket cX9_isPacket 4 (some .boolean) 3 := ⟨tm_4 238 rfl rfl, tm_5 0 rfl rfl, tm_0 29 rfl rfl, tm_1 10 rfl rfl, tm_5 1 rfl rfl, by decide +kernel, by decide +kernel, by decide +kernel⟩
theorem v_X9_95 : ja_Cv RX9 95 yX9_arrivesParity cX9_arrivesParity 5 (some .int) 3 := ⟨tm_5 2 rfl rfl, tm_5 4 rfl rfl, tm_0 30 rfl rfl, tm_1 10 rfl rfl, tm_5 5 rfl rfl, by decide +kernel, by decide +kernel, by decide +kernel⟩
theorem v_X9_98 : ja_Cv RX9 98 yX9_sorts cX9_sorts 3 none 0 := ⟨tm_5 57 rfl rfl, tm_5 59 rfl rfl, tm_0 42 rfl rfl, tm_1 10 rfl rfl, tm_5 60 rfl rfl, by decide +kernel, by decide +kernel, by decide +kernel⟩
theorem s_X9_101 : ja_Cs RX9 101 yX9_size cX9_size 1 (some .int) 1 := ⟨tm_5 34 rfl rfl, tm_5 35 rfl rfl, tm_1 10 rfl rfl, tm_5 36 rfl rfl, by decide +kernel, by decide +kernel, by decide +kernel⟩
theorem v_X9_104 : ja_Cv RX9 104 yX9_sampleOf cX9_sampleOf 4 (some .int) 2 := ⟨tm_5 45 rfl rfl, tm_5 47 rfl rfl, tm_0 39 rfl rfl, tm_1 10 rfl rfl, tm_5 48 rfl rfl, by decide +kernel, by decide +kernel, by decide +kernel⟩
theorem v_X9_107 : ja_Cv RX9 107 yX9_levelFrom cX9_levelFrom 3 (some .int) 1 := ⟨tm_5 49 rfl rfl, tm_5 51 rfl rfl, tm_0 40 rfl rfl, tm_1 10 rfl rfl, tm_5 52 rfl rfl, by decide +kernel, by decide +kernel, by decide +kernel⟩
theorem v_X9_110 : ja_Cv RX9 110 yX9_targetNow cX9_targetNow 3 (some .int) 0 := ⟨tm_5 53 rfl rfl, tm_5 55 rfl rfl, tm_0 41 rfl rfl, tm_1 10 rfl rfl, tm_5 56 rfl rfl, by decide +kernel, by decide +kernel, by decide +kernel⟩
theorem v_X9_113 : ja_Cv RX9 113 yX9_lagOfFrame cX9_lagOfFrame 6 (some .int) 0 := ⟨tm_5 61 rfl rfl, tm_5 63 rfl rfl, tm_0 43 rfl rfl, tm_1 10 rfl rfl, tm_5 64 rfl rfl, by decide +kernel, by decide +kernel, by decide +kernel⟩
theorem s_X9_116 : ja_Cs RX9 116 yX9_mixed cX9_mixed 4 (some .int) 4 := ⟨tm_5 65 rfl rfl, tm_5 66 rfl rfl, tm_1 10 rfl rfl, tm_5 67 rfl rfl, by decide +kernel, by decide +kernel, by decide +kernel⟩
theorem v_X9_120 : ja_Cv RX9 120 yX9_gives cX9_gives 2 none 1 := ⟨tm_5 37 rfl rfl, tm_5 39 rfl rfl, tm_0 37 rfl rfl, tm_1 10 rfl rfl, tm_5 40 rfl rfl, by decide +kernel, by decide +kernel, by decide +kernel⟩
theorem v_X9_123 : ja_Cv RX9 123 yX9_old cX9_old 2 (some .int) 1 := ⟨tm_5 30 rfl rfl, tm_5 32 rfl rfl, tm_0 36 rfl rfl, tm_1 10 rfl rfl, tm_5 33 rfl rfl, by decide +kernel, by decide +kernel, by decide +kernel⟩
theorem v_X9_126 : ja_Cv RX9 126 yX9_lagOfHistory cX9_lagOfHistory 6 (some .int) 0 := ⟨tm_5 26 rfl rfl, tm_5 28 rfl rfl, tm_0 35 rfl rfl, tm_1 10 rfl rfl, tm_5 29 rfl rfl, by decide +kernel, by decide +kernel, by decide +kernel⟩
theorem v_X9_129 : ja_Cv RX9 129 yX9_conceals cX9_conceals 5 none 0 := ⟨tm_5 22 rfl rfl, tm_5 24 rfl rfl, tm_0 34 rfl rfl, tm_1 10 rfl rfl, tm_5 25 rfl rfl, by decide +kernel, by decide +kernel, by decide +kernel⟩
theorem v_X9_132 : ja_Cv RX9 132 yX9_fits cX9_fits 9 none 1 := ⟨tm_5 41 rfl rfl, tm_5 43 rfl rfl, tm_0 38 rfl rfl, tm_1 10 rfl rfl, tm_5 44 rfl rfl, by decide +kernel, by decide +kernel, by decide +kernel⟩
theorem v_X9_135 : ja_Cv RX9 135 yX9_arrivesBySchedule cX9_arrivesBySchedule 6 none 0 := ⟨tm_5 14 rfl rfl, tm_5 16 rfl rfl, tm_0 32 rfl rfl, tm_1 10 rfl rfl, tm_5 17 rfl rfl, by decide +kernel, by decide +kernel, by decide +kernel⟩
theorem v_X9_138 : ja_Cv RX9 138 yX9_takes cX9_takes 4 none 0 := ⟨tm_5 18 rfl rfl, tm_5 20 rfl rfl, tm_0 33 rfl rfl, tm_1 10 rfl rfl, tm_5 21 rfl rfl, by decide +kernel, by decide +kernel, by decide +kernel⟩
theorem v_X9_141 : ja_Cv RX9 141 yX9_tick cX9_tick 2 (some .int) 0 := ⟨tm_5 10 rfl rfl, tm_5 12 rfl rfl, tm_0 31 rfl rfl, tm_1 10 rfl rfl, tm_5 13 rfl rfl, by decide +kernel, by decide +kernel, by decide +kernel⟩
theorem v_X9_144 : ja_Cv RX9 144 yX9_keeps cX9_keeps 2 none 0 := ⟨tm_5 112 rfl rfl, tm_5 114 rfl rfl, tm_0 44 rfl rfl, tm_1 10 rfl rfl, tm_5 115 rfl rfl, by decide +kernel, by decide +kernel, by decide +kernel⟩
theorem v_X9_147 : ja_Cv RX9 147 yX9_brings cX9_brings 2 none 0 := ⟨tm_5 116 rfl rfl, tm_5 118 rfl rfl, tm_0 45 rfl rfl, tm_1 10 rfl rfl, tm_5 119 rfl rfl, by decide +kernel, by decide +kernel, by decide +kernel⟩
theorem f_X9_150 : ja_Fd RX9 150 9 5 (.int) false := ⟨RX9, TX9, 11, tyX9, rfl, by decide, u_X9, tm_4 114 rfl rfl, rfl, tyX9_ok, nmX9, rfl, by decide +kernel⟩
theorem f_X9_154 : ja_Fd RX9 154 9 10 (.int) false := ⟨RX9, TX9, 11, tyX9, rfl, by decide, u_X9, tm_4 119 rfl rfl, rfl, tyX9_ok, nmX9, rfl, by decide +kernel⟩
theorem v_X9_157 : ja_Cv RX9 157 yX9_here cX9_here 1 (some .int) 0 := ⟨tm_5 200 rfl rfl, tm_5 202 rfl rfl, tm_0 48 rfl rfl, tm_1 10 rfl rfl, tm_5 203 rfl rfl, by decide +kernel, by decide +kernel, by decide +kernel⟩
theorem f_X9_160 : ja_Fd RX9 160 9 9 (.int) false := ⟨RX9, TX9, 11, tyX9, rfl, by decide, u_X9, tm_4 118 rfl rfl, rfl, tyX9_ok, nmX9, rfl, by decide +kernel⟩
theorem v_X9_163 : ja_Cv RX9 163 yX9_number cX9_number 3 (some .int) 0 := ⟨tm_5 204 rfl rfl, tm_5 206 rfl rfl, tm_0 49 rfl rfl, tm_1 10 rfl rfl, tm_5 207 rfl rfl, by decide +kernel, by decide +kernel, by decide +kernel⟩
theorem v_X9_166 : ja_Cv RX9 166 yX9_takes_ cX9_takes_ 3 (some .boolean) 1 := ⟨tm_5 208 rfl rfl, tm_5 210 rfl rfl, tm_0 50 rfl rfl, tm_1 10 rfl rfl, tm_5 211 rfl rfl, by decide +kernel, by decide +kernel, by decide +kernel⟩
theorem v_X9_168 : ja_Cv RX9 168 yX9_isEntry cX9_isEntry 3 (some .boolean) 0 := ⟨tm_5 196 rfl rfl, tm_5 198 rfl rfl, tm_0 47 rfl rfl, tm_1 10 rfl rfl, tm_5 199 rfl rfl, by decide +kernel, by decide +kernel, by decide +kernel⟩
theorem v_X9_171 : ja_Cv RX9 171 yX9_isText cX9_isText 2 (some .boolean) 0 := ⟨tm_5 192 rfl rfl, tm_5 194 rfl rfl, tm_0 46 rfl rfl, tm_1 10 rfl rfl, tm_5 195 rfl rfl, by decide +kernel, by decide +kernel, by decide +kernel⟩
theorem v_X9_174 : ja_Cv RX9 174 yX9_isArrival cX9_isArrival 3 (some .boolean) 1 := ⟨tm_5 216 rfl rfl, tm_5 218 rfl rfl, tm_0 51 rfl rfl, tm_1 10 rfl rfl, tm_5 219 rfl rfl, by decide +kernel, by decide +kernel, by decide +kernel⟩
theorem l_X9_177 : Cond.constantLong RX9 177 (31) ∈ lw_tbg := tm_6 0 rfl rfl
theorem l_X9_179 : Cond.constantLong RX9 179 (41) ∈ lw_tbg := tm_5 236 rfl rfl
theorem s_X9_181 : ja_Cs RX9 181 yX9_more cX9_more 3 (some .long) 2 := ⟨tm_5 237 rfl rfl, tm_5 238 rfl rfl, tm_1 10 rfl rfl, tm_5 239 rfl rfl, by decide +kernel, by decide +kernel, by decide +kernel⟩
theorem v_X9_185 : ja_Cv RX9 185 yX9_start cX9_start 1 (some .int) 0 := ⟨tm_6 1 rfl rfl, tm_5 73 rfl rfl, tm_5 74 rfl rfl, tm_1 10 rfl rfl, tm_5 75 rfl rfl, by decide +kernel, by decide +kernel, by decide +kernel⟩
theorem v_X9_188 : ja_Cv RX9 188 yX9_left cX9_left 1 (some .int) 0 := ⟨tm_6 2 rfl rfl, tm_5 85 rfl rfl, tm_5 86 rfl rfl, tm_1 10 rfl rfl, tm_5 87 rfl rfl, by decide +kernel, by decide +kernel, by decide +kernel⟩
theorem v_X9_191 : ja_Cv RX9 191 yX9_next cX9_next 1 (some .int) 0 := ⟨tm_6 3 rfl rfl, tm_5 89 rfl rfl, tm_5 90 rfl rfl, tm_1 10 rfl rfl, tm_5 91 rfl rfl, by decide +kernel, by decide +kernel, by decide +kernel⟩
theorem v_X9_194 : ja_Cv RX9 194 yX9_level cX9_level 1 (some .int) 0 := ⟨tm_6 4 rfl rfl, tm_5 137 rfl rfl, tm_5 138 rfl rfl, tm_1 10 rfl rfl, tm_5 139 rfl rfl, by decide +kernel, by decide +kernel, by decide +kernel⟩
theorem v_X9_197 : ja_Cv RX9 197 yX9_output cX9_output 2 (some .int) 1 := ⟨tm_6 5 rfl rfl, tm_5 77 rfl rfl, tm_5 78 rfl rfl, tm_1 10 rfl rfl, tm_5 79 rfl rfl, by decide +kernel, by decide +kernel, by decide +kernel⟩
theorem v_X9_200 : ja_Cv RX9 200 yX9_kind cX9_kind 2 (some .int) 1 := ⟨tm_6 6 rfl rfl, tm_5 93 rfl rfl, tm_5 94 rfl rfl, tm_1 10 rfl rfl, tm_5 95 rfl rfl, by decide +kernel, by decide +kernel, by decide +kernel⟩
end
section
-- the layout of the objects
def ja_nr : Nat → Option Nat := fun _ => none
abbrev ja_n9 : List (Option Value) := [none, none, none, none, none, none, none, none, none]
def ja_LS (lay : ja_Y) (a : Nat) : Prop := lay a = some (.inl (6, [none, none, none, none, none, none, none, none, none]))
def ja_LC (lay : ja_Y) (a : Nat) : Prop := lay a = some (.inl (2, [none, none, none, none, none, none, none, none, none]))
def ja_LF (lay : ja_Y) (a : Nat) : Prop := lay a = some (.inl (3, [some (.ref (a + 1)), some (.ref (a + 2)), some (.ref (a + 3))])) ∧ lay (a + 1) = some (.inr (1, 250, fun _ => none)) ∧ lay (a + 2) = some (.inr (1, 250, fun _ => none)) ∧ lay (a + 3) = some (.inr (0, 250, fun _ => none))
theorem ja_LF_1 {lay : ja_Y} {a : Nat} (h : ja_LF lay a) : lay (a + 1) = some (.inr (1, 250, fun _ => none)) := h.2.1
theorem ja_LF_2 {lay : ja_Y} {a : Nat} (h : ja_LF lay a) : lay (a + 2) = some (.inr (1, 250, fun _ => none)) := h.2.2.1
theorem ja_LF_3 {lay : ja_Y} {a : Nat} (h : ja_LF lay a) : lay (a + 3) = some (.inr (0, 250, fun _ => none)) := h.2.2.2
def ja_LT (lay : ja_Y) (a : Nat) : Prop := lay a = some (.inl (7, [some (.ref (a + 1)), some (.ref (a + 2)), none, none])) ∧ lay (a + 1) = some (.inr (0, 16, fun _ => none)) ∧ lay (a + 2) = some (.inr (0, 16, fun _ => none))
theorem ja_LT_1 {lay : ja_Y} {a : Nat} (h : ja_LT lay a) : lay (a + 1) = some (.inr (0, 16, fun _ => none)) := h.2.1
theorem ja_LT_2 {lay : ja_Y} {a : Nat} (h : ja_LT lay a) : lay (a + 2) = some (.inr (0, 16, fun _ => none)) := h.2.2
def ja_LP (lay : ja_Y) (a : Nat) : Prop := lay a = some (.inl (4, [some (.ref (a + 1)), none, none, some (.ref (a + 2)), none, some (.ref (a + 3)), none, some (.ref (a + 4))])) ∧ lay (a + 1) = some (.inr (0, 24, fun _ => none)) ∧ lay (a + 2) = some (.inr (0, 256, fun _ => none)) ∧ lay (a + 3) = some (.inr (0, 32, fun _ => none)) ∧ lay (a + 4) = some (.inr (0, 32, fun _ => none))
theorem ja_LP_1 {lay : ja_Y} {a : Nat} (h : ja_LP lay a) : lay (a + 1) = some (.inr (0, 24, fun _ => none)) := h.2.1
theorem ja_LP_2 {lay : ja_Y} {a : Nat} (h : ja_LP lay a) : lay (a + 2) = some (.inr (0, 256, fun _ => none)) := h.2.2.1
theorem ja_LP_3 {lay : ja_Y} {a : Nat} (h : ja_LP lay a) : lay (a + 3) = some (.inr (0, 32, fun _ => none)) := h.2.2.2.1
theorem ja_LP_4 {lay : ja_Y} {a : Nat} (h : ja_LP lay a) : lay (a + 4) = some (.inr (0, 32, fun _ => none)) := h.2.2.2.2
def ja_LA (lay : ja_Y) (a : Nat) : Prop := lay a = some (.inl (1, [some (.ref (a + 1)), some (.ref (a + 2)), some (.ref (a + 3)), some (.ref (a + 4)), none])) ∧ lay (a + 1) = some (.inr (0, 24, fun _ => none)) ∧ lay (a + 2) = some (.inr (0, 24, fun _ => none)) ∧ lay (a + 3) = some (.inr (0, 24, fun _ => none)) ∧ lay (a + 4) = some (.inr (0, 24, fun _ => none))
theorem ja_LA_1 {lay : ja_Y} {a : Nat} (h : ja_LA lay a) : lay (a + 1) = some (.inr (0, 24, fun _ => none)) := h.2.1
theorem ja_LA_2 {lay : ja_Y} {a : Nat} (h : ja_LA lay a) : lay (a + 2) = some (.inr (0, 24, fun _ => none)) := h.2.2.1
theorem ja_LA_3 {lay : ja_Y} {a : Nat} (h : ja_LA lay a) : lay (a + 3) = some (.inr (0, 24, fun _ => none)) := h.2.2.2.1
theorem ja_LA_4 {lay : ja_Y} {a : Nat} (h : ja_LA lay a) : lay (a + 4) = some (.inr (0, 24, fun _ => none)) := h.2.2.2.2
def ja_LX (lay : ja_Y) (a : Nat) : Prop := lay a = some (.inl (0, [some (.ref (a + 1)), none, none, none, none, none, none, none])) ∧ lay (a + 1) = some (.inr (0, 120, fun _ => none))
theorem ja_LX_1 {lay : ja_Y} {a : Nat} (h : ja_LX lay a) : lay (a + 1) = some (.inr (0, 120, fun _ => none)) := h.2
def ja_LR (lay : ja_Y) (b : Nat) : Prop := lay b = some (.inl (5, [some (.ref (b + 1)), some (.ref (b + 2)), some (.ref (b + 6)), some (.ref (b + 9)), some (.ref (b + 14)), some (.ref (b + 15)), none, none, none])) ∧ ja_LS lay (b + 1) ∧ ja_LF lay (b + 2) ∧ ja_LT lay (b + 6) ∧ ja_LP lay (b + 9) ∧ ja_LC lay (b + 14) ∧ ja_LA lay (b + 15)
theorem ja_LR_1 {lay : ja_Y} {a : Nat} (h : ja_LR lay a) : ja_LS lay (a + 1) := h.2.1
theorem ja_LR_2 {lay : ja_Y} {a : Nat} (h : ja_LR lay a) : ja_LF lay (a + 2) := h.2.2.1
theorem ja_LR_6 {lay : ja_Y} {a : Nat} (h : ja_LR lay a) : ja_LT lay (a + 6) := h.2.2.2.1
theorem ja_LR_9 {lay : ja_Y} {a : Nat} (h : ja_LR lay a) : ja_LP lay (a + 9) := h.2.2.2.2.1
theorem ja_LR_14 {lay : ja_Y} {a : Nat} (h : ja_LR lay a) : ja_LC lay (a + 14) := h.2.2.2.2.2.1
theorem ja_LR_15 {lay : ja_Y} {a : Nat} (h : ja_LR lay a) : ja_LA lay (a + 15) := h.2.2.2.2.2.2
-- answers
def ja_b (p : Prop) [Decidable p] : Int := if p then 1 else 0
def ja_rd (lay : ja_Y) (mem : ja_M) (n : Nat) (r : Option Value) : ja_P := fun v lay' mem' n' => r = v ∧ lay = lay' ∧ mem = mem' ∧ n = n'
theorem ja_mulb {a b A B : Int} (h0 : 0 ≤ a) (h1 : a ≤ A) (g0 : 0 ≤ b) (g1 : b ≤ B) : 0 ≤ a * b ∧ a * b ≤ A * B := ⟨Int.mul_nonneg h0 g0, Int.mul_le_mul h1 g1 g0 (by omega)⟩
/-- the settings' ranges -/
def ja_SO (mem : ja_M) (s : Nat) : Prop := (4 ≤ mem s 0 ∧ mem s 0 ≤ 16) ∧ (2 ≤ mem s 1 ∧ mem s 1 ≤ 32) ∧ (1 ≤ mem s 2 ∧ mem s 2 ≤ 200) ∧ (2 ≤ mem s 3 ∧ mem s 3 ≤ 6) ∧ (2 ≤ mem s 4 ∧ mem s 4 ≤ 6) ∧ (0 ≤ mem s 5 ∧ mem s 5 ≤ 200) ∧ (1 ≤ mem s 6 ∧ mem s 6 ≤ 100) ∧ (0 ≤ mem s 7 ∧ mem s 7 ≤ 100) ∧ (0 ≤ mem s 8 ∧ mem s 8 ≤ 1)
def ja_wave (mem : ja_M) (s : Nat) (f j : Int) : Int := mem s 2 * ((f * mem s 0 + j) % mem s 1) % 201 - 100
def ja_cells (mem : ja_M) (s : Nat) : Int := mem s 3 * mem s 4
theorem ja_SO.cells {mem : ja_M} {s : Nat} (h : ja_SO mem s) : 4 ≤ ja_cells mem s ∧ ja_cells mem s ≤ 36 := by
  obtain ⟨-, -, -, h3, h4, -⟩ := h
  have h1 := Int.mul_le_mul h3.1 h4.1 (by omega) (by omega)
  have h2 := Int.mul_le_mul h3.2 h4.2 (by omega) (by omega)
  exact ⟨by unfold ja_cells; omega, by unfold ja_cells; omega⟩
abbrev ja_hasB (mem : ja_M) (s : Nat) (blk : Int) : Prop := 0 ≤ blk ∧ blk ≤ 999 / ja_cells mem s
abbrev ja_hasP (mem : ja_M) (s : Nat) (row blk idx : Int) : Prop := ja_hasB mem s blk ∧ 0 ≤ idx ∧ idx < if row = 0 then mem s 3 else mem s 4
def ja_cov (mem : ja_M) (s : Nat) (row blk idx i : Int) : Int := blk * ja_cells mem s + if row = 0 then i * mem s 3 + idx else idx * mem s 3 + i
def ja_msk : List Bool → List (Option Value) → List (Option Value)
  | true :: b, x :: r => x :: ja_msk b r
  | false :: b, _ :: r => none :: ja_msk b r
  | [], r => r
  | _, [] => []
theorem ja_msk_in : ∀ (b : List Bool) (ls : List (Option Value)) (k : Nat) (v : Value), (ja_msk b ls)[k]? = some (some v) → ls[k]? = some (some v)
  | [], ls, k, v, h => by simpa [ja_msk] using h
  | true :: b, [], k, v, h => by simp [ja_msk] at h
  | false :: b, [], k, v, h => by simp [ja_msk] at h
  | true :: b, x :: r, 0, v, h => by simpa [ja_msk] using h
  | true :: b, x :: r, k + 1, v, h => by
    simp only [ja_msk, List.getElem?_cons_succ] at h ⊢
    exact ja_msk_in b r k v h
  | false :: b, x :: r, 0, v, h => by simp [ja_msk] at h
  | false :: b, x :: r, k + 1, v, h => by
    simp only [ja_msk, List.getElem?_cons_succ] at h ⊢
    exact ja_msk_in b r k v h
/-- fewer locals are known -/
theorem r_msk {C : ja_C} {cells slots n pc : Nat} {lay : ja_Y} {mem : ja_M} {ls ls' : List (Option Value)} {st : List Value} (b : List Bool) (h : ja_msk b ls = ls') (k : ja_W C cells slots lay mem n pc ls' st) : ja_W C cells slots lay mem n pc ls st := by
  subst h
  obtain ⟨p, l, e, R, s, m, args, below, meth, c, D, cA, B, nL, Q⟩ := C
  intro H locs lsA hH hS hl
  refine k H locs lsA hH hS (ja_has_sub hl fun q hq => ?_)
  obtain ⟨j, h1, h2⟩ := (ja_al_mem _ 0 q).mp hq
  exact (ja_al_mem _ 0 q).mpr ⟨j, h1, ja_msk_in b ls j q.2 h2⟩
end
section
-- rows of memory
theorem ja_up_x {mem : ja_M} {a j a' j' : Nat} {z : Int} (h : a' ≠ a ∨ j' ≠ j) : ja_up mem a j z a' j' = mem a' j' := by
  rcases h with h | h
  · exact ja_up_a h
  · exact ja_up_j h
theorem ja_nat (k : Nat) : Int.toNat (k : Int) = k := Int.toNat_natCast k
-- Counters
def C_kn (mem : ja_M) (a : Nat) (k : Int) : ja_M := ja_up (if k = 1 then ja_up mem a 0 (mem a 0 + 1) else ja_up mem a 1 (mem a 1 + 1)) a 7 0
def C_co (mem : ja_M) (a : Nat) : ja_M := ja_up (ja_up (ja_up mem a 2 (mem a 2 + 1)) a 7 (mem a 7 + 1)) a 8 (if mem a 8 < mem a 7 + 1 then mem a 7 + 1 else mem a 8)
def C_cp (mem : ja_M) (a o : Nat) : ja_M := ja_up (ja_up (ja_up (ja_up (ja_up (ja_up (ja_up (ja_up (ja_up mem a 0 (mem o 0)) a 1 (mem o 1)) a 2 (mem o 2)) a 3 (mem o 3)) a 4 (mem o 4)) a 5 (mem o 5)) a 6 (mem o 6)) a 7 (mem o 7)) a 8 (mem o 8)
-- Arrivals
def A_add (mem : ja_M) (a : Nat) (k m i t : Int) : ja_M := if mem a 4 < 24 then ja_up (ja_up (ja_up (ja_up (ja_up mem (a + 1) (mem a 4).toNat k) (a + 2) (mem a 4).toNat m) (a + 3) (mem a 4).toNat i) (a + 4) (mem a 4).toNat t) a 4 (mem a 4 + 1) else mem
theorem A_add_sz {mem : ja_M} {a : Nat} {k m i t : Int} (h : 0 ≤ mem a 4 ∧ mem a 4 ≤ 24) : 0 ≤ A_add mem a k m i t a 4 ∧ A_add mem a k m i t a 4 ≤ 24 := by
  unfold A_add
  split
  · rw [ja_up_s]
    omega
  · exact h
theorem A_add_o {mem : ja_M} {a q : Nat} {k m i t : Int} (h : q < a ∨ a + 5 ≤ q) : A_add mem a k m i t q = mem q := by
  unfold A_add
  split
  · funext j
    rw [ja_up_a (by omega), ja_up_a (by omega), ja_up_a (by omega), ja_up_a (by omega), ja_up_a (by omega)]
  · rfl
def A_all (mem : ja_M) (a o : Nat) : Nat → ja_M
  | 0 => mem
  | k + 1 => A_add (A_all mem a o k) a (mem (o + 1) k) (mem (o + 2) k) (mem (o + 3) k) (mem (o + 4) k)
theorem A_all_sz {mem : ja_M} {a o : Nat} (h : 0 ≤ mem a 4 ∧ mem a 4 ≤ 24) : ∀ k, 0 ≤ A_all mem a o k a 4 ∧ A_all mem a o k a 4 ≤ 24
  | 0 => h
  | k + 1 => A_add_sz (A_all_sz h k)
theorem A_all_o {mem : ja_M} {a o q : Nat} (h : q < a ∨ a + 5 ≤ q) : ∀ k, A_all mem a o k q = mem q
  | 0 => rfl
  | k + 1 => (A_add_o h).trans (A_all_o h k)
def A_rem (mem : ja_M) (a : Nat) (t : Int) : Nat → ja_M
  | 0 => ja_up mem a 4 0
  | k + 1 => if mem (a + 4) k = t then A_rem mem a t k else A_add (A_rem mem a t k) a (mem (a + 1) k) (mem (a + 2) k) (mem (a + 3) k) (mem (a + 4) k)
theorem A_rem_sz {mem : ja_M} {a : Nat} {t : Int} : ∀ k : Nat, k ≤ 24 → 0 ≤ A_rem mem a t k a 4 ∧ A_rem mem a t k a 4 ≤ k
  | 0, _ => by
    simp only [A_rem, ja_up_s]
    omega
  | k + 1, hk => by
    have h := @A_rem_sz mem a t k (by omega)
    simp only [A_rem]
    split
    · omega
    · unfold A_add
      split
      · rw [ja_up_s]
        omega
      · omega
theorem A_rem_k {mem : ja_M} {a : Nat} {t : Int} {c j : Nat} (hc : 1 ≤ c ∧ c ≤ 4) : ∀ k : Nat, k ≤ 24 → k ≤ j → A_rem mem a t k (a + c) j = mem (a + c) j
  | 0, _, _ => by
    simp only [A_rem]
    exact ja_up_a (by omega)
  | k + 1, hk, hj => by
    have h := @A_rem_k mem a t c j hc k (by omega) (by omega)
    have hs := @A_rem_sz mem a t k (by omega)
    simp only [A_rem]
    split
    · exact h
    · unfold A_add
      split
      · rw [ja_up_a (by omega), ja_up_x (by omega), ja_up_x (by omega), ja_up_x (by omega), ja_up_x (by omega)]
        exact h
      · exact h
-- Transits
def ja_rs (f : Nat → Int) (j : Nat) (z : Int) : Nat → Int := fun q => if q = j then z else f q
def ja_rw (mem : ja_M) (a : Nat) (f : Nat → Int) : ja_M := fun q => if q = a then f else mem q
theorem ja_rw_s (mem : ja_M) (a : Nat) (f : Nat → Int) : ja_rw mem a f a = f := by simp [ja_rw]
theorem ja_rw_n {mem : ja_M} {a q : Nat} {f : Nat → Int} (h : q ≠ a) : ja_rw mem a f q = mem q := by simp [ja_rw, h]
theorem ja_rw_up (mem : ja_M) (a j : Nat) (f : Nat → Int) (z : Int) : ja_up (ja_rw mem a f) a j z = ja_rw mem a (ja_rs f j z) := by
  funext q x
  unfold ja_up ja_rw ja_rs
  by_cases hq : q = a
  · simp [hq]
  · simp [hq]
theorem ja_rw_self (mem : ja_M) (a : Nat) : ja_rw mem a (mem a) = mem := by
  funext q
  unfold ja_rw
  by_cases hq : q = a
  · subst hq
    simp
  · simp [hq]
theorem ja_rw_rw (mem : ja_M) (a : Nat) (f g : Nat → Int) : ja_rw (ja_rw mem a f) a g = ja_rw mem a g := by
  funext q
  unfold ja_rw
  by_cases hq : q = a <;> simp [hq]
def T_ins (f : Nat → Int) (v : Int) : Nat → (Nat → Int)
  | 0 => ja_rs f 0 v
  | h + 1 => if v < f h then T_ins (ja_rs f (h + 1) (f h)) v h else ja_rs f (h + 1) v
theorem T_ins_in {v : Int} {P : Int → Prop} (hv : P v) : ∀ (h : Nat) (f : Nat → Int), (∀ j, P (f j)) → ∀ j, P (T_ins f v h j)
  | 0, f, hf, j => by
    simp only [T_ins, ja_rs]
    split
    · exact hv
    · exact hf j
  | h + 1, f, hf, j => by
    simp only [T_ins]
    split
    · refine T_ins_in hv h _ (fun q => ?_) j
      unfold ja_rs
      split
      · exact hf h
      · exact hf q
    · unfold ja_rs
      split
      · exact hv
      · exact hf j
def T_srt (f g : Nat → Int) : Nat → (Nat → Int)
  | 0 => g
  | k + 1 => T_ins (T_srt f g k) (f k) k
theorem T_cast0 : (((0 : Nat)) : Int).toNat = 0 := rfl
theorem T_srt_in {f g : Nat → Int} {P : Int → Prop} (hf : ∀ j, P (f j)) (hg : ∀ j, P (g j)) : ∀ k j, P (T_srt f g k j)
  | 0, j => hg j
  | k + 1, j => T_ins_in (hf k) k _ (T_srt_in hf hg k) j
def T_ct (mem : ja_M) (a : Nat) : Int := if mem a 2 + 1 < 16 then mem a 2 + 1 else 16
def T_add (mem : ja_M) (a : Nat) (v : Int) : ja_M := ja_rw (ja_up (ja_up (ja_up mem (a + 1) (mem a 3).toNat v) a 3 ((mem a 3 + 1) % 16)) a 2 (T_ct mem a)) (a + 2) (T_srt (ja_rs (mem (a + 1)) (mem a 3).toNat v) (mem (a + 2)) (T_ct mem a).toNat)
def T_spr (mem : ja_M) (a : Nat) (q : Int) : Int := if mem a 2 = 0 then 0 else mem (a + 2) ((q * mem a 2 + 99) / 100 - 1).toNat - mem (a + 2) 0
def T_cp (mem : ja_M) (a o : Nat) : ja_M := ja_up (ja_up (ja_cp (ja_cp mem (o + 1) (a + 1) 0 0 16) (o + 2) (a + 2) 0 0 16) a 2 (mem o 2)) a 3 (mem o 3)
def ja_sm (z : Int) : Prop := -1000000 ≤ z ∧ z ≤ 1000000
/-- the window's ranges -/
def ja_TO (mem : ja_M) (a : Nat) : Prop := (0 ≤ mem a 2 ∧ mem a 2 ≤ 16) ∧ (0 ≤ mem a 3 ∧ mem a 3 < 16) ∧ (∀ j, ja_sm (mem (a + 1) j)) ∧ ∀ j, ja_sm (mem (a + 2) j)
end
section
-- Frames: bits
def J_bc (x : Int64) : Int :=
  let a := x - ((x.toUInt64 >>> ((ja_I 1).toInt64.toUInt64 &&& Int64.toUInt64 63)).toInt64 &&& 6148914691236517205)
  let b := (a &&& 3689348814741910323) + ((a.toUInt64 >>> ((ja_I 2).toInt64.toUInt64 &&& Int64.toUInt64 63)).toInt64 &&& 3689348814741910323)
  let c := b + (b.toUInt64 >>> ((ja_I 4).toInt64.toUInt64 &&& Int64.toUInt64 63)).toInt64 &&& 1085102592571150095
  let d := c + (c.toUInt64 >>> ((ja_I 8).toInt64.toUInt64 &&& Int64.toUInt64 63)).toInt64
  let e := d + (d.toUInt64 >>> ((ja_I 16).toInt64.toUInt64 &&& Int64.toUInt64 63)).toInt64
  let f := e + (e.toUInt64 >>> ((ja_I 32).toInt64.toUInt64 &&& Int64.toUInt64 63)).toInt64
  (f.toInt32 &&& ja_I 127).toInt
abbrev ja_shl (a : Int64) (z : Int) : Int64 := a <<< ((ja_I z).toInt64 &&& 63)
abbrev ja_shr (a : Int64) (z : Int) : Int64 := a >>> ((ja_I z).toInt64 &&& 63)
def F_pb (row i : Int) : Int := (ja_I 1 <<< (ja_I (if row = 0 then 6 + i else i) &&& 31)).toInt
abbrev F_and (x y : Int) : Int := (ja_I x &&& ja_I y).toInt
abbrev F_or (x y : Int) : Int := (ja_I x ||| ja_I y).toInt
def F_lbc (cols i : Int) : Nat → Int64
  | 0 => 0
  | k + 1 => F_lbc cols i k ||| ja_shl 1 (k * cols + i)
def F_lb (mem : ja_M) (s : Nat) (row i : Int) : Int64 := if row = 0 then F_lbc (mem s 3) i (mem s 4).toNat else ja_shl (ja_shl 1 (mem s 3) - 1) (i * mem s 3)
def F_wl (mem : ja_M) (s : Nat) (x : Int64) (p row i : Int) : Int64 := if F_and p (F_pb row i) = 0 then x else if J_bc (F_lb mem s row i &&& (x ^^^ (-1))) = 1 then x ||| (F_lb mem s row i &&& (x ^^^ (-1))) else x
def F_ln (mem : ja_M) (s : Nat) (p row : Int) (x : Int64) : Nat → Int64
  | 0 => x
  | k + 1 => F_wl mem s (F_ln mem s p row x k) p row k
abbrev F_rd (mem : ja_M) (s : Nat) (p : Int) (x : Int64) : Int64 := F_ln mem s p 0 (F_ln mem s p 1 x (mem s 4).toNat) (mem s 3).toNat
def F_cp (mem : ja_M) (s : Nat) (p : Int) : Nat → Int64 → Int64
  | 0, x => x
  | k + 1, x => if F_rd mem s p x = x then x else F_cp mem s p k (F_rd mem s p x)
def F_bey (mem : ja_M) (s : Nat) (k : Int) : Int64 := if 1000 - k * ja_cells mem s < 64 then ja_shl (-1) (1000 - k * ja_cells mem s) else 0
def F_kn (mem : ja_M) (s f : Nat) (k : Int) : Int64 := ja_L (mem (f + 1) k.toNat) ||| F_bey mem s k
def F_st (mem : ja_M) (s f : Nat) (x : Int) : Int := if ja_shr (ja_L (mem (f + 2) (x / ja_cells mem s).toNat)) (x % ja_cells mem s) &&& 1 = 0 then (if ja_shr (ja_L (mem (f + 1) (x / ja_cells mem s).toNat)) (x % ja_cells mem s) &&& 1 = 0 then 0 else 1) else 2
def F_ad (mem : ja_M) (s f : Nat) (x : Int) : ja_M := ja_up (ja_up mem (f + 2) (x / ja_cells mem s).toNat (ja_L (mem (f + 2) (x / ja_cells mem s).toNat) ||| ja_shl 1 (x % ja_cells mem s)).toInt) (f + 1) (x / ja_cells mem s).toNat (ja_L (mem (f + 1) (x / ja_cells mem s).toNat) ||| ja_shl 1 (x % ja_cells mem s)).toInt
def F_ap (mem : ja_M) (f : Nat) (row k i : Int) : ja_M := ja_up mem (f + 3) k.toNat (F_or (mem (f + 3) k.toNat) (F_pb row i))
def F_re (mem : ja_M) (s f : Nat) (k : Int) : Int64 := F_cp mem s (mem (f + 3) k.toNat) 37 (F_kn mem s f k)
def F_fr (mem : ja_M) (s f : Nat) (x : Int) : Nat → Int
  | 0 => x
  | k + 1 => if F_st mem s f x = 0 then x else F_fr mem s f (x + 1) k
theorem F_fr_le {mem : ja_M} {s f : Nat} : ∀ (k : Nat) (x : Int), x ≤ F_fr mem s f x k ∧ F_fr mem s f x k ≤ x + k
  | 0, x => by simp [F_fr]
  | k + 1, x => by
    have h := @F_fr_le mem s f k (x + 1)
    simp only [F_fr]
    split <;> omega
theorem F_st_in {mem : ja_M} {s f : Nat} {x : Int} : 0 ≤ F_st mem s f x ∧ F_st mem s f x ≤ 2 := by
  unfold F_st
  split
  · split <;> omega
  · omega
theorem ja_blk {mem : ja_M} {s : Nat} {x : Int} (hO : ja_SO mem s) (hx : 0 ≤ x ∧ x ≤ 999) : (0 ≤ x / ja_cells mem s ∧ x / ja_cells mem s < 250) ∧ 0 ≤ x % ja_cells mem s ∧ x % ja_cells mem s < 36 := by
  have h := hO.cells
  refine ⟨⟨Int.ediv_nonneg hx.1 (by omega), ?_⟩, Int.emod_nonneg _ (by omega), ?_⟩
  · rw [Int.ediv_lt_iff_lt_mul (by omega)]
    have := Int.mul_le_mul_of_nonneg_left (by omega : 4 ≤ ja_cells mem s) (by omega : (0 : Int) ≤ 250)
    omega
  · have := Int.emod_lt_of_pos x (by omega : 0 < ja_cells mem s)
    omega
theorem ja_blk2 {mem : ja_M} {s : Nat} {k : Int} (hO : ja_SO mem s) (hk : ja_hasB mem s k) : (0 ≤ k ∧ k < 250) ∧ 0 ≤ k * ja_cells mem s ∧ k * ja_cells mem s ≤ 999 := by
  have h := hO.cells
  obtain ⟨h0, h1⟩ := hk
  have h2 : 999 / ja_cells mem s < 250 := by
    rw [Int.ediv_lt_iff_lt_mul (by omega)]
    have := Int.mul_le_mul_of_nonneg_left (by omega : 4 ≤ ja_cells mem s) (by omega : (0 : Int) ≤ 250)
    omega
  refine ⟨⟨h0, by omega⟩, Int.mul_nonneg h0 (by omega), ?_⟩
  have h3 := Int.mul_le_mul_of_nonneg_right h1 (by omega : 0 ≤ ja_cells mem s)
  have h4 := Int.ediv_mul_le (999 : Int) (by omega : ja_cells mem s ≠ 0)
  omega
theorem J_and127 (x : Int32) : 0 ≤ (x &&& ja_I 127).toInt ∧ (x &&& ja_I 127).toInt ≤ 127 := by
  have h : (x &&& ja_I 127).toInt = ((x.toBitVec &&& 127#32).toNat : Int) := by
    have h1 : (x &&& ja_I 127).toBitVec = x.toBitVec &&& 127#32 := by rw [Int32.toBitVec_and]; rfl
    show (x &&& ja_I 127).toBitVec.toInt = _
    rw [h1, BitVec.toInt_eq_toNat_of_lt]
    rw [BitVec.toNat_and]
    have := @Nat.and_le_right x.toBitVec.toNat (127#32).toNat
    have e : (127#32).toNat = 127 := rfl
    omega
  rw [h, BitVec.toNat_and]
  have := @Nat.and_le_right x.toBitVec.toNat (127#32).toNat
  have e : (127#32).toNat = 127 := rfl
  omega
theorem J_bc_le (x : Int64) : 0 ≤ J_bc x ∧ J_bc x ≤ 127 := J_and127 _
theorem F_and_in (x y : Int) : ja_in (F_and x y) := ja_range _
theorem F_pb_in (x y : Int) : ja_in (F_pb x y) := ja_range _
theorem ja_of' (x : Int32) : x = ja_I x.toInt := (ja_of x).symm
theorem ja_lcmp0 {a b : Int64} : lg_cmp a b = ja_I (if a > b then 1 else if a = b then 0 else -1) := by
  unfold lg_cmp
  split
  · rfl
  · split <;> rfl
theorem ja_lc_in {a b : Int64} : ja_in (if a > b then 1 else if a = b then 0 else -1) := by
  split
  · exact ⟨by omega, by omega⟩
  · split <;> exact ⟨by omega, by omega⟩
theorem ja_lc_0 {a b : Int64} : (if a > b then (1 : Int) else if a = b then 0 else -1) = 0 ↔ a = b := by
  constructor
  · intro h
    by_cases h1 : a > b
    · rw [if_pos h1] at h
      omega
    · rw [if_neg h1] at h
      by_cases h2 : a = b
      · exact h2
      · rw [if_neg h2] at h
        omega
  · intro h
    subst h
    rw [if_neg (by first | exact Int64.lt_irrefl _ | simp), if_pos rfl]
end
section
-- Player
def ja_sp (z : Int) : Prop := -100 ≤ z ∧ z ≤ 100
def P_put (mem : ja_M) (a : Nat) (v : Int) : ja_M := if mem a 1 < 24 then ja_up (ja_up mem (a + 1) (mem a 1).toNat v) a 1 (mem a 1 + 1) else mem
def P_pts (mem : ja_M) (a : Nat) (h : Nat → Int) : Nat → ja_M
  | 0 => mem
  | k + 1 => P_put (P_pts mem a h k) a (h k)
theorem P_put_o {mem : ja_M} {a q : Nat} {v : Int} (h : q ≠ a ∧ q ≠ a + 1) : P_put mem a v q = mem q := by
  unfold P_put
  split
  · funext j
    rw [ja_up_a h.1, ja_up_a h.2]
  · rfl
theorem P_put_j {mem : ja_M} {a j : Nat} {v : Int} (h : j ≠ 1) : P_put mem a v a j = mem a j := by
  unfold P_put
  split
  · rw [ja_up_j h, ja_up_a (by omega)]
  · rfl
theorem P_put_1 {mem : ja_M} {a : Nat} {v : Int} : P_put mem a v a 1 = if mem a 1 < 24 then mem a 1 + 1 else mem a 1 := by
  unfold P_put
  split
  · rw [ja_up_s]
  · rfl
theorem P_put_f {mem : ja_M} {a : Nat} {v : Int} (hv : ja_sp v) (h : ∀ j, ja_sp (mem (a + 1) j)) (j : Nat) : ja_sp (P_put mem a v (a + 1) j) := by
  unfold P_put
  split
  · rw [ja_up_a (by omega)]
    by_cases hj : j = (mem a 1).toNat
    · subst hj
      rw [ja_up_s]
      exact hv
    · rw [ja_up_j hj]
      exact h j
  · exact h j
theorem P_pts_o {mem : ja_M} {a q : Nat} {h : Nat → Int} (hq : q ≠ a ∧ q ≠ a + 1) : ∀ k, P_pts mem a h k q = mem q
  | 0 => rfl
  | k + 1 => (P_put_o hq).trans (P_pts_o hq k)
theorem P_pts_j {mem : ja_M} {a j : Nat} {h : Nat → Int} (hj : j ≠ 1) : ∀ k, P_pts mem a h k a j = mem a j
  | 0 => rfl
  | k + 1 => (P_put_j hj).trans (P_pts_j hj k)
theorem P_pts_1 {mem : ja_M} {a : Nat} {h : Nat → Int} (h0 : 0 ≤ mem a 1 ∧ mem a 1 ≤ 24) : ∀ k : Nat, (P_pts mem a h k a 1 = if mem a 1 + k ≤ 24 then mem a 1 + k else 24)
  | 0 => by
    simp only [P_pts]
    split <;> omega
  | k + 1 => by
    have ih := @P_pts_1 mem a h h0 k
    simp only [P_pts]
    rw [P_put_1, ih]
    split <;> split <;> split <;> omega
theorem P_pts_r {mem : ja_M} {a : Nat} {h : Nat → Int} (h0 : 0 ≤ mem a 1 ∧ mem a 1 ≤ 24) (k : Nat) : 0 ≤ P_pts mem a h k a 1 ∧ P_pts mem a h k a 1 ≤ 24 := by
  rw [P_pts_1 h0 k]
  split <;> omega
theorem P_pts_f {mem : ja_M} {a : Nat} {h : Nat → Int} : ∀ k : Nat, (∀ j, j < k → ja_sp (h j)) → (∀ j, ja_sp (mem (a + 1) j)) → ∀ j, ja_sp (P_pts mem a h k (a + 1) j)
  | 0, _, hf => hf
  | k + 1, hh, hf => P_put_f (hh k (by omega)) (P_pts_f k (fun j hj => hh j (by omega)) hf)
def P_ab (z : Int) : Int := if 0 ≤ z then z else 0 - z
def P_dif (g : Nat → Int) (p : Nat) : Nat → Int
  | 0 => 0
  | i + 1 => P_dif g p i + P_ab (g i - g (i + p))
theorem P_dif_in {g : Nat → Int} (hg : ∀ j, ja_sp (g j)) (p : Nat) : ∀ i : Nat, 0 ≤ P_dif g p i ∧ P_dif g p i ≤ 200 * i
  | 0 => by simp [P_dif]
  | i + 1 => by
    have ih := P_dif_in hg p i
    have h1 := hg i
    have h2 := hg (i + p)
    obtain ⟨a1, a2⟩ := h1
    obtain ⟨b1, b2⟩ := h2
    simp only [P_dif, P_ab]
    split <;> omega
def P_bt (ex d l s b : Int) : Bool := if ex = 0 then decide (d / l < s / b) else decide (d * b < s * l)
def P_lg (g : Nat → Int) (ex : Int) : Nat → Int × Int
  | 0 => (2, P_dif g 2 2)
  | k + 1 => if P_bt ex (P_dif g (k + 3) (k + 3)) ((k : Int) + 3) (P_lg g ex k).2 (P_lg g ex k).1 = true then ((k : Int) + 3, P_dif g (k + 3) (k + 3)) else P_lg g ex k
theorem P_lg_in {g : Nat → Int} {ex : Int} (hg : ∀ j, ja_sp (g j)) : ∀ k : Nat, k ≤ 14 → (2 ≤ (P_lg g ex k).1 ∧ (P_lg g ex k).1 ≤ k + 2) ∧ 0 ≤ (P_lg g ex k).2 ∧ (P_lg g ex k).2 ≤ 3200
  | 0, _ => by
    have := P_dif_in hg 2 2
    simp only [P_lg]
    exact ⟨⟨by omega, by omega⟩, by omega, by omega⟩
  | k + 1, hk => by
    have ih := P_lg_in (ex := ex) hg k (by omega)
    have h := P_dif_in hg (k + 3) (k + 3)
    simp only [P_lg]
    split
    · exact ⟨⟨by omega, by omega⟩, by omega, by omega⟩
    · exact ⟨⟨by omega, by omega⟩, by omega, by omega⟩
def P_fd : Nat → Int → Int
  | 0, x => x
  | k + 1, x => if x = 0 then x else P_fd k ((x * 3).tdiv 4)
theorem P_fd1 {x : Int} (hx : ja_sp x) : ja_sp ((x * 3).tdiv 4) := by
  obtain ⟨h1, h2⟩ := hx
  rcases Int.le_total 0 (x * 3) with h | h
  · rw [Int.tdiv_eq_ediv_of_nonneg h]
    exact ⟨by omega, by omega⟩
  · have e : (x * 3).tdiv 4 = -((-(x * 3)) / 4) := by
      rw [← Int.tdiv_eq_ediv_of_nonneg (by omega : 0 ≤ -(x * 3)), Int.neg_tdiv]
      omega
    rw [e]
    exact ⟨by omega, by omega⟩
theorem P_fd_in : ∀ (k : Nat) (x : Int), ja_sp x → ja_sp (P_fd k x)
  | 0, x, h => h
  | k + 1, x, h => by
    simp only [P_fd]
    split
    · exact h
    · exact P_fd_in k _ (P_fd1 h)
def P_mx (x y p i : Int) : Int := (x * (p - i) + y * i).tdiv p
theorem P_mx_in {x y p i : Int} (hx : ja_sp x) (hy : ja_sp y) (hi : 0 ≤ i ∧ i ≤ p) (hp : 0 < p) : ja_sp (P_mx x y p i) := by
  obtain ⟨a1, a2⟩ := hx
  obtain ⟨b1, b2⟩ := hy
  have u1 := Int.mul_le_mul_of_nonneg_right a2 (by omega : 0 ≤ p - i)
  have u2 := Int.mul_le_mul_of_nonneg_right a1 (by omega : 0 ≤ p - i)
  have v1 := Int.mul_le_mul_of_nonneg_right b2 hi.1
  have v2 := Int.mul_le_mul_of_nonneg_right b1 hi.1
  unfold P_mx
  generalize x * (p - i) = A at *
  generalize y * i = A2 at *
  have z1 : A + A2 ≤ 100 * p ∧ -(A + A2) ≤ 100 * p := ⟨by omega, by omega⟩
  rcases Int.le_total 0 (A + A2) with h | h
  · rw [Int.tdiv_eq_ediv_of_nonneg h]
    have w1 := Int.ediv_le_of_le_mul hp z1.1
    have w2 := Int.ediv_nonneg h (by omega : 0 ≤ p)
    exact ⟨by omega, by omega⟩
  · have e : (A + A2).tdiv p = -((-(A + A2)) / p) := by
      rw [← Int.tdiv_eq_ediv_of_nonneg (by omega : 0 ≤ -(A + A2)), Int.neg_tdiv]
      omega
    have w1 := Int.ediv_le_of_le_mul hp z1.2
    have w2 := Int.ediv_nonneg (by omega : 0 ≤ -(A + A2)) (by omega : 0 ≤ p)
    rw [e]
    exact ⟨by omega, by omega⟩
/-- the player's ranges -/
def ja_PO (mem : ja_M) (a : Nat) : Prop := (0 ≤ mem a 2 ∧ mem a 2 ≤ mem a 1 ∧ mem a 1 ≤ 24) ∧ (0 ≤ mem a 4 ∧ mem a 4 ≤ 1000000) ∧ (0 ≤ mem a 6 ∧ mem a 6 ≤ 1000) ∧ (∀ j, ja_sp (mem (a + 1) j)) ∧ (∀ j, ja_sp (mem (a + 2) j)) ∧ ∀ j, ja_sp (mem (a + 4) j)
def P_beg (mem : ja_M) (a : Nat) (k : Int) : ja_M := ja_up (ja_up (ja_up (ja_up mem (a + 3) (mem a 6 % 32).toNat k) a 6 (mem a 6 + 1)) a 1 0) a 2 0
def P_out (mem : ja_M) (a : Nat) : ja_M := if mem a 2 < mem a 1 then ja_up (ja_up (ja_up mem (a + 2) (mem a 4 % 256).toNat (mem (a + 1) (mem a 2).toNat)) a 4 (mem a 4 + 1)) a 2 (mem a 2 + 1) else mem
def P_ldr (mem : ja_M) (s : Nat) (fr : Int) (f : Nat → Int) : Nat → (Nat → Int)
  | 0 => f
  | k + 1 => ja_rs (P_ldr mem s fr f k) k (ja_wave mem s fr k)
def P_srr (mem : ja_M) (a : Nat) : Nat → (Nat → Int)
  | 0 => mem (a + 4)
  | k + 1 => ja_rs (P_srr mem a k) k (mem (a + 2) ((mem a 4 - (k + 1)) % 256).toNat)
def P_cpr (mem : ja_M) (a : Nat) (n : Int) : ja_M := P_pts (P_pts mem a (fun i => P_mx (mem (a + 4) i) (mem (a + 4) (i + (P_lg (mem (a + 4)) 1 (n / 2 - 2).toNat).1.toNat)) (P_lg (mem (a + 4)) 1 (n / 2 - 2).toNat).1 i) (P_lg (mem (a + 4)) 1 (n / 2 - 2).toNat).1.toNat) a (fun i => mem (a + 4) ((2 * (P_lg (mem (a + 4)) 1 (n / 2 - 2).toNat).1).toNat + i)) (n - 2 * (P_lg (mem (a + 4)) 1 (n / 2 - 2).toNat).1).toNat
theorem P_mxr {x y p i : Int} (hx : ja_sp x) (hy : ja_sp y) (hi : 0 ≤ i ∧ i ≤ p) (hp : p ≤ 1000) : -1000000 ≤ x * (p - i) + y * i ∧ x * (p - i) + y * i ≤ 1000000 := by
  obtain ⟨a1, a2⟩ := hx
  obtain ⟨b1, b2⟩ := hy
  have u1 := Int.mul_le_mul_of_nonneg_right a2 (by omega : 0 ≤ p - i)
  have u2 := Int.mul_le_mul_of_nonneg_right a1 (by omega : 0 ≤ p - i)
  have v1 := Int.mul_le_mul_of_nonneg_right b2 hi.1
  have v2 := Int.mul_le_mul_of_nonneg_right b1 hi.1
  omega
theorem ja_SO_c {mem mem' : ja_M} {s : Nat} (h : mem' s = mem s) (hO : ja_SO mem s) : ja_SO mem' s := by
  unfold ja_SO
  rw [h]
  exact hO
theorem P_lg_a {g : Nat → Int} {ex : Int} {k : Nat} (h : ¬ ex = 0) (h2 : ¬ (P_lg g ex k).2 * ((k : Int) + 3) ≤ P_dif g (k + 3) (k + 3) * (P_lg g ex k).1) : P_lg g ex (k + 1) = ((k : Int) + 3, P_dif g (k + 3) (k + 3)) := by
  have e : P_bt ex (P_dif g (k + 3) (k + 3)) ((k : Int) + 3) (P_lg g ex k).2 (P_lg g ex k).1 = true := by
    unfold P_bt
    rw [if_neg h]
    exact decide_eq_true (Int.not_le.mp h2)
  simp only [P_lg]
  rw [if_pos e]
theorem P_lg_b {g : Nat → Int} {ex : Int} {k : Nat} (h : ¬ ex = 0) (h2 : (P_lg g ex k).2 * ((k : Int) + 3) ≤ P_dif g (k + 3) (k + 3) * (P_lg g ex k).1) : P_lg g ex (k + 1) = P_lg g ex k := by
  have e : P_bt ex (P_dif g (k + 3) (k + 3)) ((k : Int) + 3) (P_lg g ex k).2 (P_lg g ex k).1 = false := by
    unfold P_bt
    rw [if_neg h]
    exact decide_eq_false (Int.not_lt.mpr h2)
  simp only [P_lg]
  rw [if_neg (by rw [e]; decide)]
theorem P_lg_c {g : Nat → Int} {ex : Int} {k : Nat} (h : ex = 0) (h2 : ¬ (P_lg g ex k).2 / (P_lg g ex k).1 ≤ P_dif g (k + 3) (k + 3) / ((k : Int) + 3)) : P_lg g ex (k + 1) = ((k : Int) + 3, P_dif g (k + 3) (k + 3)) := by
  have e : P_bt ex (P_dif g (k + 3) (k + 3)) ((k : Int) + 3) (P_lg g ex k).2 (P_lg g ex k).1 = true := by
    unfold P_bt
    rw [if_pos h]
    exact decide_eq_true (Int.not_le.mp h2)
  simp only [P_lg]
  rw [if_pos e]
theorem P_lg_d {g : Nat → Int} {ex : Int} {k : Nat} (h : ex = 0) (h2 : (P_lg g ex k).2 / (P_lg g ex k).1 ≤ P_dif g (k + 3) (k + 3) / ((k : Int) + 3)) : P_lg g ex (k + 1) = P_lg g ex k := by
  have e : P_bt ex (P_dif g (k + 3) (k + 3)) ((k : Int) + 3) (P_lg g ex k).2 (P_lg g ex k).1 = false := by
    unfold P_bt
    rw [if_pos h]
    exact decide_eq_false (Int.not_lt.mpr h2)
  simp only [P_lg]
  rw [if_neg (by rw [e]; decide)]
def P_str (mem : ja_M) (a : Nat) (n : Int) : ja_M := P_pts (P_pts (P_pts mem a (fun i => mem (a + 4) (0 + i)) (P_lg (mem (a + 4)) 1 (n / 2 - 2).toNat).1.toNat) a (fun i => P_mx (mem (a + 4) (i + (P_lg (mem (a + 4)) 1 (n / 2 - 2).toNat).1.toNat)) (mem (a + 4) i) (P_lg (mem (a + 4)) 1 (n / 2 - 2).toNat).1 i) (P_lg (mem (a + 4)) 1 (n / 2 - 2).toNat).1.toNat) a (fun i => mem (a + 4) ((P_lg (mem (a + 4)) 1 (n / 2 - 2).toNat).1.toNat + i)) (n - (P_lg (mem (a + 4)) 1 (n / 2 - 2).toNat).1).toNat
def P_pst (mem : ja_M) (a : Nat) : Int := if 32 < mem a 4 then 32 else mem a 4
def P_clg (mem : ja_M) (a : Nat) : Int := if P_pst mem a < 4 then 0 else (P_lg (P_srr mem a (P_pst mem a).toNat) 0 (P_pst mem a / 2 - 2).toNat).1
def P_csm (mem : ja_M) (a : Nat) (gap : Int) (i : Nat) : Int := if P_clg mem a = 0 then 0 else P_fd gap.toNat (P_srr mem a (P_pst mem a).toNat (P_clg mem a - 1 - (i : Int) % P_clg mem a).toNat)
def P_con (mem : ja_M) (a : Nat) (n gap : Int) : ja_M := P_pts (ja_rw mem (a + 4) (P_srr mem a (P_pst mem a).toNat)) a (P_csm mem a gap) n.toNat
theorem P_srr_in {mem : ja_M} {a : Nat} (h2 : ∀ j, ja_sp (mem (a + 2) j)) (h4 : ∀ j, ja_sp (mem (a + 4) j)) : ∀ k j, ja_sp (P_srr mem a k j)
  | 0, j => h4 j
  | k + 1, j => by
    simp only [P_srr, ja_rs]
    split
    · exact h2 _
    · exact P_srr_in h2 h4 k j
theorem P_clg_in {mem : ja_M} {a : Nat} (h0 : 0 ≤ mem a 4) (h2 : ∀ j, ja_sp (mem (a + 2) j)) (h4 : ∀ j, ja_sp (mem (a + 4) j)) : 0 ≤ P_clg mem a ∧ P_clg mem a ≤ 16 := by
  unfold P_clg
  split
  · omega
  · have hp : 4 ≤ P_pst mem a ∧ P_pst mem a ≤ 32 := by
      have : P_pst mem a ≤ 32 := by unfold P_pst; split <;> omega
      omega
    have := P_lg_in (ex := 0) (P_srr_in h2 h4 (P_pst mem a).toNat) (P_pst mem a / 2 - 2).toNat (by omega)
    omega
theorem P_csm_in {mem : ja_M} {a : Nat} {gap : Int} (h2 : ∀ j, ja_sp (mem (a + 2) j)) (h4 : ∀ j, ja_sp (mem (a + 4) j)) (i : Nat) : ja_sp (P_csm mem a gap i) := by
  unfold P_csm
  split
  · exact ⟨by omega, by omega⟩
  · exact P_fd_in _ _ (P_srr_in h2 h4 _ _)
def P_cp2 (mem : ja_M) (a o : Nat) : ja_M := ja_up (ja_cp (ja_up (ja_cp (ja_up (ja_up (ja_cp mem (o + 1) (a + 1) 0 0 24) a 1 (mem o 1)) a 2 (mem o 2)) (o + 2) (a + 2) 0 0 256) a 4 (mem o 4)) (o + 3) (a + 3) 0 0 32) a 6 (mem o 6)
end
section
-- Text
def X_ex (mem : ja_M) (x : Nat) (p : Int) : ja_M := ja_up (ja_up (ja_up mem x 2 p) x 3 0) x 4 0
def X_be (mem : ja_M) (x : Nat) (c : Int) : ja_M := if c = 100 then X_ex (ja_up mem x 5 0) x 1 else if c = 114 then X_ex (ja_up mem x 5 1) x 2 else if c = 99 then X_ex (ja_up mem x 5 2) x 2 else mem
def X_eon (mem : ja_M) (x : Nat) : Int := if mem x 2 = 2 then 46 else if mem x 2 = 4 then 59 else 64
def X_en (mem : ja_M) (x o : Nat) : ja_M := if mem x 2 = 2 then X_ex (ja_up mem x 6 (mem x 4)) x 3 else if mem x 2 = 3 then X_ex (ja_up mem x 7 (mem x 4)) x 4 else if mem x 2 = 4 then X_ex (A_add mem o (mem x 5) (mem x 6) (mem x 7) (mem x 4)) x 0 else X_ex (ja_up mem x 6 (mem x 4)) x 4
def X_fm (mem : ja_M) (x o : Nat) (c : Int) : ja_M := if mem x 2 = 0 then X_be mem x c else if 48 ≤ c ∧ c ≤ 57 then ja_up (ja_up mem x 4 (10 * mem x 4 + c - 48)) x 3 (mem x 3 + 1) else if mem x 3 = 0 ∨ ¬ c = X_eon mem x then mem else X_en mem x o
def X_fb (mem : ja_M) (x : Nat) (c : Int) : Int := if mem x 2 = 0 then ja_b (c = 100 ∨ c = 114 ∨ c = 99) else if 48 ≤ c ∧ c ≤ 57 then ja_b (mem x 3 + 1 ≤ 4) else if mem x 3 = 0 ∨ ¬ c = X_eon mem x then 0 else 1
def X_lp (f : Nat → Int) (x o : Nat) (ln : Int) : Nat → Nat → ja_M → Int × ja_M
  | 0, _, m => (if m x 2 = 0 then -1004 else ln, m)
  | r + 1, i, m => if X_fb m x (f i) = 0 then ((i : Int), X_fm m x o (f i)) else X_lp f x o ln r (i + 1) (X_fm m x o (f i))
/-- a text in reading: what is expected, the digits so far and their value, the numbers of the entry -/
def ja_XO (mem : ja_M) (x : Nat) : Prop := (0 ≤ mem x 2 ∧ mem x 2 ≤ 4) ∧ (0 ≤ mem x 4 ∧ ((mem x 3 = 0 ∧ mem x 4 ≤ 0) ∨ (mem x 3 = 1 ∧ mem x 4 ≤ 9) ∨ (mem x 3 = 2 ∧ mem x 4 ≤ 99) ∨ (mem x 3 = 3 ∧ mem x 4 ≤ 999) ∨ (mem x 3 = 4 ∧ mem x 4 ≤ 9999))) ∧ (0 ≤ mem x 5 ∧ mem x 5 ≤ 2) ∧ (0 ≤ mem x 6 ∧ mem x 6 ≤ 9999) ∧ (0 ≤ mem x 7 ∧ mem x 7 ≤ 9999)
def ja_n4 (z : Int) : Prop := 0 ≤ z ∧ z ≤ 9999
/-- arrivals: a size, their kinds, numbers that the text can bear -/
def ja_AO (mem : ja_M) (o : Nat) : Prop := (0 ≤ mem o 4 ∧ mem o 4 ≤ 24) ∧ (∀ j, 0 ≤ mem (o + 1) j ∧ mem (o + 1) j ≤ 2) ∧ (∀ j, ja_n4 (mem (o + 2) j)) ∧ (∀ j, ja_n4 (mem (o + 3) j)) ∧ ∀ j, ja_n4 (mem (o + 4) j)
theorem X_fb_01 {mem : ja_M} {x : Nat} {c : Int} : X_fb mem x c = 0 ∨ X_fb mem x c = 1 := by
  unfold X_fb ja_b
  split
  · split <;> omega
  · split
    · split <;> omega
    · split <;> omega
theorem X_ex_o {mem : ja_M} {x q : Nat} {p : Int} (h : q ≠ x) : X_ex mem x p q = mem q := by
  unfold X_ex
  rw [ja_up_row h, ja_up_row h, ja_up_row h]
theorem X_ex_j {mem : ja_M} {x j : Nat} {p : Int} (h : j ≠ 2 ∧ j ≠ 3 ∧ j ≠ 4) : X_ex mem x p x j = mem x j := by
  unfold X_ex
  rw [ja_up_j h.2.2, ja_up_j h.2.1, ja_up_j h.1]
theorem X_ex_2 {mem : ja_M} {x : Nat} {p : Int} : X_ex mem x p x 2 = p ∧ X_ex mem x p x 3 = 0 ∧ X_ex mem x p x 4 = 0 := by
  unfold X_ex
  refine ⟨?_, ?_, ?_⟩
  · rw [ja_up_j (by omega), ja_up_j (by omega), ja_up_s]
  · rw [ja_up_j (by omega), ja_up_s]
  · rw [ja_up_s]
theorem X_ex_XO {mem : ja_M} {x : Nat} {p : Int} (hp : 0 ≤ p ∧ p ≤ 4) (h : (0 ≤ mem x 5 ∧ mem x 5 ≤ 2) ∧ (0 ≤ mem x 6 ∧ mem x 6 ≤ 9999) ∧ (0 ≤ mem x 7 ∧ mem x 7 ≤ 9999)) : ja_XO (X_ex mem x p) x := by
  obtain ⟨e2, e3, e4⟩ := @X_ex_2 mem x p
  unfold ja_XO
  rw [e2, e3, e4, X_ex_j ⟨by omega, by omega, by omega⟩, X_ex_j ⟨by omega, by omega, by omega⟩, X_ex_j ⟨by omega, by omega, by omega⟩]
  exact ⟨hp, ⟨by omega, by omega⟩, h.1, h.2.1, h.2.2⟩
theorem A_add_AO {mem : ja_M} {o : Nat} {k m i t : Int} (h : ja_AO mem o) (hk : 0 ≤ k ∧ k ≤ 2) (hm : ja_n4 m) (hi : ja_n4 i) (ht : ja_n4 t) : ja_AO (A_add mem o k m i t) o := by
  obtain ⟨h0, h1, h2, h3, h4⟩ := h
  refine ⟨A_add_sz h0, fun j => ?_, fun j => ?_, fun j => ?_, fun j => ?_⟩
  · unfold A_add
    split
    · rw [ja_up_a (by omega), ja_up_a (by omega), ja_up_a (by omega), ja_up_a (by omega)]
      by_cases hj : j = (mem o 4).toNat
      · subst hj
        rw [ja_up_s]
        exact hk
      · rw [ja_up_j hj]
        exact h1 j
    · exact h1 j
  · unfold A_add
    split
    · rw [ja_up_a (by omega), ja_up_a (by omega), ja_up_a (by omega)]
      by_cases hj : j = (mem o 4).toNat
      · subst hj
        rw [ja_up_s]
        exact hm
      · rw [ja_up_j hj, ja_up_a (by omega)]
        exact h2 j
    · exact h2 j
  · unfold A_add
    split
    · rw [ja_up_a (by omega), ja_up_a (by omega)]
      by_cases hj : j = (mem o 4).toNat
      · subst hj
        rw [ja_up_s]
        exact hi
      · rw [ja_up_j hj, ja_up_a (by omega), ja_up_a (by omega)]
        exact h3 j
    · exact h3 j
  · unfold A_add
    split
    · rw [ja_up_a (by omega)]
      by_cases hj : j = (mem o 4).toNat
      · subst hj
        rw [ja_up_s]
        exact ht
      · rw [ja_up_j hj, ja_up_a (by omega), ja_up_a (by omega), ja_up_a (by omega)]
        exact h4 j
    · exact h4 j
theorem ja_AO_c {mem mem' : ja_M} {o : Nat} (h : ∀ q, o ≤ q → q < o + 5 → mem' q = mem q) (hO : ja_AO mem o) : ja_AO mem' o := by
  unfold ja_AO
  rw [h o (by omega) (by omega), h (o + 1) (by omega) (by omega), h (o + 2) (by omega) (by omega), h (o + 3) (by omega) (by omega), h (o + 4) (by omega) (by omega)]
  exact hO
theorem X_en_XO {mem : ja_M} {x o : Nat} (h : ja_XO mem x) (hxo : x < o ∨ o + 5 ≤ x) : ja_XO (X_en mem x o) x := by
  obtain ⟨h2, ⟨h40, h4⟩, h5, h6, h7⟩ := h
  unfold X_en
  split
  · refine X_ex_XO (by omega) ?_
    rw [ja_up_j (by omega), ja_up_s, ja_up_j (by omega)]
    exact ⟨h5, ⟨by omega, by omega⟩, h7⟩
  · split
    · refine X_ex_XO (by omega) ?_
      rw [ja_up_j (by omega), ja_up_j (by omega), ja_up_s]
      exact ⟨h5, h6, ⟨by omega, by omega⟩⟩
    · split
      · refine X_ex_XO (by omega) ?_
        rw [A_add_o (by omega)]
        exact ⟨h5, h6, h7⟩
      · refine X_ex_XO (by omega) ?_
        rw [ja_up_j (by omega), ja_up_s, ja_up_j (by omega)]
        exact ⟨h5, ⟨by omega, by omega⟩, h7⟩
theorem X_en_AO {mem : ja_M} {x o : Nat} (h : ja_XO mem x) (hA : ja_AO mem o) (hxo : x < o ∨ o + 5 ≤ x) : ja_AO (X_en mem x o) o := by
  obtain ⟨h2, ⟨h40, h4⟩, h5, h6, h7⟩ := h
  unfold X_en
  split
  · exact ja_AO_c (fun q q1 q2 => by rw [X_ex_o (by omega), ja_up_row (by omega)]) hA
  · split
    · exact ja_AO_c (fun q q1 q2 => by rw [X_ex_o (by omega), ja_up_row (by omega)]) hA
    · split
      · exact ja_AO_c (fun q q1 q2 => by rw [X_ex_o (by omega)]) (A_add_AO hA h5 h6 h7 ⟨by omega, by omega⟩)
      · exact ja_AO_c (fun q q1 q2 => by rw [X_ex_o (by omega), ja_up_row (by omega)]) hA
theorem X_en_o {mem : ja_M} {x o q : Nat} (hq : q ≠ x ∧ (q < o ∨ o + 5 ≤ q)) : X_en mem x o q = mem q := by
  unfold X_en
  split
  · rw [X_ex_o hq.1, ja_up_row hq.1]
  · split
    · rw [X_ex_o hq.1, ja_up_row hq.1]
    · split
      · rw [X_ex_o hq.1, A_add_o hq.2]
      · rw [X_ex_o hq.1, ja_up_row hq.1]
theorem X_be_XO {mem : ja_M} {x : Nat} {c : Int} (h : ja_XO mem x) : ja_XO (X_be mem x c) x := by
  obtain ⟨h2, h4, h5, h6, h7⟩ := h
  unfold X_be
  split
  · refine X_ex_XO (by omega) ?_
    rw [ja_up_s, ja_up_j (by omega), ja_up_j (by omega)]
    exact ⟨by omega, h6, h7⟩
  · split
    · refine X_ex_XO (by omega) ?_
      rw [ja_up_s, ja_up_j (by omega), ja_up_j (by omega)]
      exact ⟨by omega, h6, h7⟩
    · split
      · refine X_ex_XO (by omega) ?_
        rw [ja_up_s, ja_up_j (by omega), ja_up_j (by omega)]
        exact ⟨by omega, h6, h7⟩
      · exact ⟨h2, h4, h5, h6, h7⟩
theorem X_be_o {mem : ja_M} {x q : Nat} {c : Int} (h : q ≠ x) : X_be mem x c q = mem q := by
  unfold X_be
  split
  · rw [X_ex_o h, ja_up_row h]
  · split
    · rw [X_ex_o h, ja_up_row h]
    · split
      · rw [X_ex_o h, ja_up_row h]
      · rfl
theorem X_ex_1 {mem : ja_M} {x : Nat} {p : Int} : X_ex mem x p x 1 = mem x 1 := X_ex_j ⟨by omega, by omega, by omega⟩
theorem X_fm_XO {mem : ja_M} {x o : Nat} {c : Int} (h : ja_XO mem x) (hxo : x < o ∨ o + 5 ≤ x) (hb : ¬ X_fb mem x c = 0) : ja_XO (X_fm mem x o c) x := by
  unfold X_fm
  unfold X_fb ja_b at hb
  split
  · exact X_be_XO h
  · rename_i h2
    rw [if_neg h2] at hb
    split
    · rename_i hc
      rw [if_pos hc] at hb
      obtain ⟨h2, ⟨h40, h4⟩, h5, h6, h7⟩ := h
      have hd : mem x 3 + 1 ≤ 4 := by
        by_cases q : mem x 3 + 1 ≤ 4
        · exact q
        · rw [if_neg q] at hb
          exact absurd rfl hb
      unfold ja_XO
      rw [ja_up_j (show (2 : Nat) ≠ 3 by omega), ja_up_j (show (2 : Nat) ≠ 4 by omega), ja_up_s, ja_up_j (show (4 : Nat) ≠ 3 by omega), ja_up_s, ja_up_j (show (5 : Nat) ≠ 3 by omega), ja_up_j (show (5 : Nat) ≠ 4 by omega), ja_up_j (show (6 : Nat) ≠ 3 by omega), ja_up_j (show (6 : Nat) ≠ 4 by omega), ja_up_j (show (7 : Nat) ≠ 3 by omega), ja_up_j (show (7 : Nat) ≠ 4 by omega)]
      exact ⟨h2, ⟨by omega, by omega⟩, h5, h6, h7⟩
    · split
      · exact h
      · exact X_en_XO h hxo
theorem X_fm_AO {mem : ja_M} {x o : Nat} {c : Int} (h : ja_XO mem x) (hA : ja_AO mem o) (hxo : x < o ∨ o + 5 ≤ x) : ja_AO (X_fm mem x o c) o := by
  unfold X_fm
  split
  · exact ja_AO_c (fun q q1 q2 => X_be_o (by omega)) hA
  · split
    · exact ja_AO_c (fun q q1 q2 => by rw [ja_up_row (by omega), ja_up_row (by omega)]) hA
    · split
      · exact hA
      · exact X_en_AO h hA hxo
theorem X_fm_o {mem : ja_M} {x o q : Nat} {c : Int} (hq : q ≠ x ∧ (q < o ∨ o + 5 ≤ q)) : X_fm mem x o c q = mem q := by
  unfold X_fm
  split
  · exact X_be_o hq.1
  · split
    · rw [ja_up_row hq.1, ja_up_row hq.1]
    · split
      · rfl
      · exact X_en_o hq
theorem X_fm_1 {mem : ja_M} {x o : Nat} {c : Int} (hxo : x < o ∨ o + 5 ≤ x) : X_fm mem x o c x 1 = mem x 1 := by
  unfold X_fm X_be X_en
  split
  · split
    · rw [X_ex_1, ja_up_j (by omega)]
    · split
      · rw [X_ex_1, ja_up_j (by omega)]
      · split
        · rw [X_ex_1, ja_up_j (by omega)]
        · rfl
  · split
    · rw [ja_up_j (by omega), ja_up_j (by omega)]
    · split
      · rfl
      · split
        · rw [X_ex_1, ja_up_j (by omega)]
        · split
          · rw [X_ex_1, ja_up_j (by omega)]
          · split
            · rw [X_ex_1, A_add_o (by omega)]
            · rw [X_ex_1, ja_up_j (by omega)]
end
section
-- Receiver at b: settings b + 1, frames b + 2, transits b + 6, player b + 9, counters b + 14, schedule b + 15
def R_so (mem : ja_M) (b : Nat) : ja_M := if mem b 7 = 0 then ja_up (ja_up mem b 7 1) b 8 (mem b 6 + mem (b + 1) 5) else mem
def R_tg (mem : ja_M) (b : Nat) : Int := T_spr mem (b + 6) (mem (b + 1) 6) + mem (b + 1) 7
def R_lv (mem : ja_M) (b : Nat) (x : Int) : Int := mem (b + 1) 0 * (F_fr mem (b + 1) (b + 2) x (1000 - x).toNat - x)
def R_ad (mem : ja_M) (b : Nat) (x : Int) : ja_M := T_add (R_so mem b) (b + 6) ((R_so mem b) b 6 - x * (R_so mem b) (b + 1) 0)
def R_lt (mem : ja_M) (b : Nat) (x : Int) : ja_M := if x < mem (b + 9) 6 then ja_up mem (b + 14) 5 (mem (b + 14) 5 + 1) else mem
def R_kn (mem : ja_M) (b : Nat) (x : Int) : ja_M := F_ad (R_lt (R_ad mem b x) b x) (b + 1) (b + 2) x
def R_rs (mem : ja_M) (b : Nat) (k : Int) : ja_M := ja_up mem (b + 2 + 1) k.toNat (F_re mem (b + 1) (b + 2) k).toInt
def R_rn (mem : ja_M) (b : Nat) (k : Int) : Int := J_bc (F_re mem (b + 1) (b + 2) k &&& (F_kn mem (b + 1) (b + 2) k ^^^ (-1)))
def R_dp (mem : ja_M) (b : Nat) : ja_M := ja_up mem (b + 14) 6 (mem (b + 14) 6 + 1)
def R_af (mem : ja_M) (b : Nat) (x : Int) : ja_M := if F_st mem (b + 1) (b + 2) x = 0 then R_rs (R_kn mem b x) b (x / ja_cells (R_kn mem b x) (b + 1)) else R_dp mem b
def R_an (mem : ja_M) (b : Nat) (x : Int) : Int := if F_st mem (b + 1) (b + 2) x = 0 then 1 + R_rn (R_kn mem b x) b (x / ja_cells (R_kn mem b x) (b + 1)) else 0
def R_pk (mem : ja_M) (b : Nat) (r k i : Int) : ja_M := F_ap (R_so mem b) (b + 2) r k i
def R_ap (mem : ja_M) (b : Nat) (r k i : Int) : ja_M := if F_and (mem (b + 2 + 3) k.toNat) (F_pb r i) = 0 then R_rs (R_pk mem b r k i) b k else R_dp mem b
def R_pn (mem : ja_M) (b : Nat) (r k i : Int) : Int := if F_and (mem (b + 2 + 3) k.toNat) (F_pb r i) = 0 then R_rn (R_pk mem b r k i) b k else 0
def R_du (mem : ja_M) (b : Nat) : Nat → ja_M
  | 0 => mem
  | k + 1 => if mem (b + 15 + 4) k = mem b 6 then (if mem (b + 15 + 1) k = 0 then R_af (R_du mem b k) b (mem (b + 15 + 2) k) else R_ap (R_du mem b k) b (ja_b (mem (b + 15 + 1) k = 1)) (mem (b + 15 + 2) k) (mem (b + 15 + 3) k)) else R_du mem b k
def R_due (mem : ja_M) (b : Nat) : ja_M := A_rem (R_du mem b (mem (b + 15) 4).toNat) (b + 15) (mem b 6) (mem (b + 15) 4).toNat
def R_lw (mem : ja_M) (b : Nat) (x : Int) : ja_M := ja_rw mem (b + 9 + 4) (P_ldr mem (b + 1) x (mem (b + 9 + 4)) (mem (b + 1) 0).toNat)
def R_pkn (mem : ja_M) (b : Nat) (x : Int) : ja_M :=
  if (R_lw mem b x) (b + 1) 8 ≠ 0 ∧ R_tg mem b + mem (b + 1) 0 < R_lv mem b (x + 1) then P_cpr (ja_up (R_lw mem b x) (b + 14) 4 ((R_lw mem b x) (b + 14) 4 + 1)) (b + 9) (mem (b + 1) 0)
  else if (R_lw mem b x) (b + 1) 8 ≠ 0 ∧ R_lv mem b (x + 1) + mem (b + 1) 0 < R_tg mem b then P_str (ja_up (R_lw mem b x) (b + 14) 3 ((R_lw mem b x) (b + 14) 3 + 1)) (b + 9) (mem (b + 1) 0)
  else P_pts (R_lw mem b x) (b + 9) (fun i => (R_lw mem b x) (b + 9 + 4) (0 + i)) (mem (b + 1) 0).toNat
def R_tf (mem : ja_M) (b : Nat) (x : Int) : ja_M :=
  if F_st mem (b + 1) (b + 2) x = 0 then P_con (P_beg (C_co mem (b + 14)) (b + 9) 3) (b + 9) (mem (b + 1) 0) (mem (b + 14) 7 + 1)
  else R_pkn (P_beg (C_kn mem (b + 14) (if F_st mem (b + 1) (b + 2) x = 2 then 1 else 2)) (b + 9) (if F_st mem (b + 1) (b + 2) x = 2 then 1 else 2)) b x
def R_pl (mem : ja_M) (b : Nat) : ja_M :=
  if mem b 7 ≠ 0 ∧ mem b 8 ≤ mem b 6 then P_out (if mem (b + 9) 1 - mem (b + 9) 2 = 0 ∧ mem (b + 9) 6 ≤ 999 then R_tf mem b (mem (b + 9) 6) else mem) (b + 9) else mem
def R_tk (mem : ja_M) (b : Nat) : ja_M := ja_up (R_pl (R_due mem b) b) b 6 ((R_pl (R_due mem b) b) b 6 + 1)
/-- what is scheduled exists -/
def ja_VO (mem : ja_M) (b : Nat) : Prop := ∀ j : Nat, (j : Int) < mem (b + 15) 4 → (mem (b + 15 + 1) j = 0 → mem (b + 15 + 2) j ≤ 999) ∧ (¬ mem (b + 15 + 1) j = 0 → ja_hasP mem (b + 1) (ja_b (mem (b + 15 + 1) j = 1)) (mem (b + 15 + 2) j) (mem (b + 15 + 3) j))
/-- a receiver's ranges, with a bound of its time -/
def ja_RO (mem : ja_M) (b : Nat) (t : Int) : Prop := ja_SO mem (b + 1) ∧ ja_TO mem (b + 6) ∧ ja_PO mem (b + 9) ∧ ja_AO mem (b + 15) ∧ ja_VO mem b ∧ (0 ≤ mem b 6 ∧ mem b 6 ≤ t) ∧ (0 ≤ mem b 7 ∧ mem b 7 ≤ 1) ∧ (-1 ≤ mem b 8 ∧ mem b 8 ≤ t + 200) ∧ mem (b + 9) 4 ≤ mem b 6 ∧ (0 ≤ mem (b + 14) 7 ∧ mem (b + 14) 7 ≤ mem (b + 9) 6) ∧ (0 ≤ mem (b + 14) 8 ∧ mem (b + 14) 8 ≤ mem (b + 9) 6) ∧ (0 ≤ mem (b + 14) 2 ∧ mem (b + 14) 2 ≤ mem (b + 9) 6)
-- the rows that each leaves alone
theorem R_so_o {mem : ja_M} {b q : Nat} (h : q ≠ b) : R_so mem b q = mem q := by
  unfold R_so
  split
  · rw [ja_up_row h, ja_up_row h]
  · rfl
theorem R_so_j {mem : ja_M} {b j : Nat} (h : j ≠ 7 ∧ j ≠ 8) : R_so mem b b j = mem b j := by
  unfold R_so
  split
  · rw [ja_up_j h.2, ja_up_j h.1]
  · rfl
theorem T_add_o {mem : ja_M} {a q : Nat} {v : Int} (h : q < a ∨ a + 3 ≤ q) : T_add mem a v q = mem q := by
  unfold T_add
  rw [ja_rw_n (by omega), ja_up_row (by omega), ja_up_row (by omega), ja_up_row (by omega)]
theorem T_add_TO {mem : ja_M} {a : Nat} {v : Int} (h : ja_TO mem a) (hv : ja_sm v) : ja_TO (T_add mem a v) a := by
  obtain ⟨h2, h3, b1, b2⟩ := h
  have hct : 1 ≤ T_ct mem a ∧ T_ct mem a ≤ 16 := by unfold T_ct; split <;> omega
  have hb1 : ∀ j, ja_sm (ja_rs (mem (a + 1)) (mem a 3).toNat v j) := fun j => by unfold ja_rs; split; exact hv; exact b1 j
  unfold ja_TO T_add
  refine ⟨?_, ?_, fun j => ?_, fun j => ?_⟩
  · rw [ja_rw_n (by omega), ja_up_s]
    omega
  · rw [ja_rw_n (by omega), ja_up_j (by omega), ja_up_s]
    omega
  · rw [ja_rw_n (by omega), ja_up_a (by omega), ja_up_a (by omega)]
    have := hb1 j
    unfold ja_rs at this
    unfold ja_up
    by_cases hj : j = (mem a 3).toNat
    · simp only [hj, and_self, if_true] at this ⊢
      exact this
    · simp only [hj, and_false, if_false] at this ⊢
      exact this
  · rw [ja_rw_s]
    exact T_srt_in hb1 b2 _ j
theorem F_ad_o {mem : ja_M} {s f q : Nat} {x : Int} (h : q ≠ f + 1 ∧ q ≠ f + 2) : F_ad mem s f x q = mem q := by
  unfold F_ad
  rw [ja_up_row h.1, ja_up_row h.2]
theorem R_lt_o {mem : ja_M} {b q : Nat} {x : Int} (h : q ≠ b + 14) : R_lt mem b x q = mem q := by
  unfold R_lt
  split
  · rw [ja_up_row h]
  · rfl
theorem R_lt_j {mem : ja_M} {b j : Nat} {x : Int} (h : j ≠ 5) : R_lt mem b x (b + 14) j = mem (b + 14) j := by
  unfold R_lt
  split
  · rw [ja_up_j h]
  · rfl
theorem ja_SO_r {mem mem' : ja_M} {s : Nat} (h : mem' s = mem s) (hO : ja_SO mem s) : ja_SO mem' s := ja_SO_c h hO
theorem ja_TO_c {mem mem' : ja_M} {a : Nat} (h0 : mem' a = mem a) (h1 : mem' (a + 1) = mem (a + 1)) (h2 : mem' (a + 2) = mem (a + 2)) (hO : ja_TO mem a) : ja_TO mem' a := by
  unfold ja_TO
  rw [h0, h1, h2]
  exact hO
theorem ja_PO_c {mem mem' : ja_M} {a : Nat} (h0 : mem' a = mem a) (h1 : mem' (a + 1) = mem (a + 1)) (h2 : mem' (a + 2) = mem (a + 2)) (h4 : mem' (a + 4) = mem (a + 4)) (hO : ja_PO mem a) : ja_PO mem' a := by
  unfold ja_PO
  rw [h0, h1, h2, h4]
  exact hO
theorem ja_cells_c {mem mem' : ja_M} {s : Nat} (h : mem' s = mem s) : ja_cells mem' s = ja_cells mem s := by
  unfold ja_cells
  rw [h]
theorem ja_hasP_c {mem mem' : ja_M} {s : Nat} {r k i : Int} (h : mem' s = mem s) : ja_hasP mem' s r k i = ja_hasP mem s r k i := by
  simp only [ja_hasP, ja_hasB, ja_cells, h]
theorem ja_VO_c {mem mem' : ja_M} {b : Nat} (hs : mem' (b + 1) = mem (b + 1)) (h : ∀ q, b + 15 ≤ q → q < b + 20 → mem' q = mem q) (hO : ja_VO mem b) : ja_VO mem' b := by
  intro j hj
  rw [h (b + 15) (by omega) (by omega)] at hj
  rw [h (b + 15 + 1) (by omega) (by omega), h (b + 15 + 2) (by omega) (by omega), h (b + 15 + 3) (by omega) (by omega), ja_hasP_c hs]
  exact hO j hj
/-- ranges go over to a memory that is the same but in frames, counters' other places and the start -/
theorem ja_RO_c {mem mem' : ja_M} {b : Nat} {t : Int} (h : ja_RO mem b t) (hb : ∀ j, j ≠ 7 → j ≠ 8 → mem' b j = mem b j) (h7 : 0 ≤ mem' b 7 ∧ mem' b 7 ≤ 1) (h8 : -1 ≤ mem' b 8 ∧ mem' b 8 ≤ t + 200) (hs : mem' (b + 1) = mem (b + 1)) (hT : ja_TO mem' (b + 6)) (hp : ∀ q, b + 9 ≤ q → q < b + 14 → mem' q = mem q) (hc : ∀ j, (j = 7 ∨ j = 8 ∨ j = 2) → mem' (b + 14) j = mem (b + 14) j) (ha : ∀ q, b + 15 ≤ q → q < b + 20 → mem' q = mem q) : ja_RO mem' b t := by
  obtain ⟨g1, g2, g3, g4, g5, g6, g7, g8, g9, g10, g11, g12⟩ := h
  refine ⟨ja_SO_c hs g1, hT, ja_PO_c (hp _ (by omega) (by omega)) (hp _ (by omega) (by omega)) (hp _ (by omega) (by omega)) (hp _ (by omega) (by omega)) g3, ja_AO_c (fun q q1 q2 => ha q q1 (by omega)) g4, ja_VO_c hs ha g5, ?_, h7, h8, ?_, ?_, ?_, ?_⟩
  · rw [hb 6 (by omega) (by omega)]
    exact g6
  · rw [hb 6 (by omega) (by omega), hp (b + 9) (by omega) (by omega)]
    exact g9
  · rw [hc 7 (by omega), hp (b + 9) (by omega) (by omega)]
    exact g10
  · rw [hc 8 (by omega), hp (b + 9) (by omega) (by omega)]
    exact g11
  · rw [hc 2 (by omega), hp (b + 9) (by omega) (by omega)]
    exact g12
theorem R_so_RO {mem : ja_M} {b : Nat} {t : Int} (h : ja_RO mem b t) : ja_RO (R_so mem b) b t := by
  have h0 := h
  obtain ⟨g1, g2, g3, g4, g5, g6, g7, g8, g9, g10, g11, g12⟩ := h
  have h5 := g1.2.2.2.2.2.1
  refine ja_RO_c h0 (fun j h7 h8 => R_so_j ⟨h7, h8⟩) ?_ ?_ (R_so_o (by omega)) (ja_TO_c (R_so_o (by omega)) (R_so_o (by omega)) (R_so_o (by omega)) g2) (fun q q1 q2 => R_so_o (by omega)) (fun j _ => by rw [R_so_o (by omega)]) (fun q q1 q2 => R_so_o (by omega))
  · unfold R_so
    split
    · rw [ja_up_j (by omega), ja_up_s]
      omega
    · exact g7
  · unfold R_so
    split
    · rw [ja_up_s]
      omega
    · exact g8
theorem ja_frame {mem : ja_M} {b : Nat} {t x : Int} (h : ja_RO mem b t) (hx : 0 ≤ x ∧ x ≤ 999) : 0 ≤ x * mem (b + 1) 0 ∧ x * mem (b + 1) 0 ≤ 15984 := by
  obtain ⟨h1, h2⟩ := ja_mulb hx.1 hx.2 (by have := h.1.1; omega : 0 ≤ mem (b + 1) 0) (by have := h.1.1; omega : mem (b + 1) 0 ≤ 16)
  exact ⟨h1, by omega⟩
theorem R_ad_RO {mem : ja_M} {b : Nat} {t x : Int} (h : ja_RO mem b t) (ht : t ≤ 900000) (hx : 0 ≤ x ∧ x ≤ 999) : ja_RO (R_ad mem b x) b t := by
  have h1 := R_so_RO h
  have hf := ja_frame h1 hx
  have h6 := h1.2.2.2.2.2.1
  have hv : ja_sm ((R_so mem b) b 6 - x * (R_so mem b) (b + 1) 0) := ⟨by omega, by omega⟩
  have g := h1
  obtain ⟨g1, g2, g3, g4, g5, g6, g7, g8, g9, g10, g11, g12⟩ := h1
  unfold R_ad
  exact ja_RO_c g (fun j _ _ => by rw [T_add_o (by omega)]) (by rw [T_add_o (by omega)]; exact g7) (by rw [T_add_o (by omega)]; exact g8) (T_add_o (by omega)) (T_add_TO g2 hv) (fun q q1 q2 => T_add_o (by omega)) (fun j _ => by rw [T_add_o (by omega)]) (fun q q1 q2 => T_add_o (by omega))
theorem R_same {mem mem' : ja_M} {b : Nat} {t : Int} (h : ja_RO mem b t) (hq : ∀ q, q ≠ b + 3 → q ≠ b + 4 → q ≠ b + 5 → q ≠ b + 14 → mem' q = mem q) (hc : ∀ j, (j = 7 ∨ j = 8 ∨ j = 2) → mem' (b + 14) j = mem (b + 14) j) : ja_RO mem' b t := by
  have g := h
  obtain ⟨g1, g2, g3, g4, g5, g6, g7, g8, g9, g10, g11, g12⟩ := h
  have hb := hq b (by omega) (by omega) (by omega) (by omega)
  exact ja_RO_c g (fun j _ _ => by rw [hb]) (by rw [hb]; exact g7) (by rw [hb]; exact g8) (hq _ (by omega) (by omega) (by omega) (by omega)) (ja_TO_c (hq _ (by omega) (by omega) (by omega) (by omega)) (hq _ (by omega) (by omega) (by omega) (by omega)) (hq _ (by omega) (by omega) (by omega) (by omega)) g2) (fun q q1 q2 => hq _ (by omega) (by omega) (by omega) (by omega)) hc (fun q q1 q2 => hq _ (by omega) (by omega) (by omega) (by omega))
theorem R_lt_RO {mem : ja_M} {b : Nat} {t x : Int} (h : ja_RO mem b t) : ja_RO (R_lt mem b x) b t := R_same h (fun q _ _ _ q4 => R_lt_o q4) (fun j hj => R_lt_j (by omega))
theorem R_kn_RO {mem : ja_M} {b : Nat} {t x : Int} (h : ja_RO mem b t) (ht : t ≤ 900000) (hx : 0 ≤ x ∧ x ≤ 999) : ja_RO (R_kn mem b x) b t := R_same (R_lt_RO (x := x) (R_ad_RO h ht hx)) (fun q q1 q2 q3 q4 => F_ad_o ⟨by omega, by omega⟩) (fun j hj => by rw [R_kn, F_ad_o ⟨by omega, by omega⟩])
theorem R_rs_o {mem : ja_M} {b q : Nat} {k : Int} (h : q ≠ b + 3) : R_rs mem b k q = mem q := by
  unfold R_rs
  exact ja_up_row (by omega)
theorem R_rs_RO {mem : ja_M} {b : Nat} {t k : Int} (h : ja_RO mem b t) : ja_RO (R_rs mem b k) b t := R_same h (fun q q1 q2 q3 q4 => R_rs_o q1) (fun j hj => by rw [R_rs_o (by omega)])
theorem R_dp_RO {mem : ja_M} {b : Nat} {t : Int} (h : ja_RO mem b t) : ja_RO (R_dp mem b) b t := R_same h (fun q q1 q2 q3 q4 => by unfold R_dp; exact ja_up_row q4) (fun j hj => by unfold R_dp; exact ja_up_j (by omega))
theorem R_af_RO {mem : ja_M} {b : Nat} {t x : Int} (h : ja_RO mem b t) (ht : t ≤ 900000) (hx : 0 ≤ x ∧ x ≤ 999) : ja_RO (R_af mem b x) b t := by
  unfold R_af
  split
  · exact R_rs_RO (R_kn_RO h ht hx)
  · exact R_dp_RO h
theorem R_pk_RO {mem : ja_M} {b : Nat} {t r k i : Int} (h : ja_RO mem b t) : ja_RO (R_pk mem b r k i) b t := R_same (R_so_RO h) (fun q q1 q2 q3 q4 => by unfold R_pk F_ap; exact ja_up_row (by omega)) (fun j hj => by unfold R_pk F_ap; exact ja_up_a (by omega))
theorem R_ap_RO {mem : ja_M} {b : Nat} {t r k i : Int} (h : ja_RO mem b t) : ja_RO (R_ap mem b r k i) b t := by
  unfold R_ap
  split
  · exact R_rs_RO (R_pk_RO h)
  · exact R_dp_RO h
end
section
theorem F_ap_o {mem : ja_M} {f q : Nat} {r k i : Int} (h : q ≠ f + 3) : F_ap mem f r k i q = mem q := by
  unfold F_ap
  exact ja_up_row h
theorem R_ad_o {mem : ja_M} {b q : Nat} {x : Int} (h : q ≠ b ∧ (q < b + 6 ∨ b + 9 ≤ q)) : R_ad mem b x q = mem q := by
  unfold R_ad
  rw [T_add_o (by omega), R_so_o h.1]
theorem R_af_o {mem : ja_M} {b q : Nat} {x : Int} (h : b + 15 ≤ q ∨ q = b + 1) : R_af mem b x q = mem q := by
  unfold R_af
  split
  · rw [R_rs_o (by omega), R_kn, F_ad_o ⟨by omega, by omega⟩, R_lt_o (by omega), R_ad_o ⟨by omega, by omega⟩]
  · unfold R_dp
    exact ja_up_row (by omega)
theorem R_af_6 {mem : ja_M} {b : Nat} {x : Int} : R_af mem b x b 6 = mem b 6 := by
  unfold R_af
  split
  · rw [R_rs_o (by omega), R_kn, F_ad_o ⟨by omega, by omega⟩, R_lt_o (by omega), R_ad, T_add_o (by omega), R_so_j ⟨by omega, by omega⟩]
  · unfold R_dp
    exact ja_up_a (by omega)
theorem R_ap_o {mem : ja_M} {b q : Nat} {r k i : Int} (h : b + 15 ≤ q ∨ q = b + 1) : R_ap mem b r k i q = mem q := by
  unfold R_ap
  split
  · rw [R_rs_o (by omega), R_pk, F_ap_o (by omega), R_so_o (by omega)]
  · unfold R_dp
    exact ja_up_row (by omega)
theorem R_ap_6 {mem : ja_M} {b : Nat} {r k i : Int} : R_ap mem b r k i b 6 = mem b 6 := by
  unfold R_ap
  split
  · rw [R_rs_o (by omega), R_pk, F_ap_o (by omega), R_so_j ⟨by omega, by omega⟩]
  · unfold R_dp
    exact ja_up_a (by omega)
theorem R_du_o {mem : ja_M} {b q : Nat} (h : b + 15 ≤ q ∨ q = b + 1) : ∀ k, R_du mem b k q = mem q
  | 0 => rfl
  | k + 1 => by
    simp only [R_du]
    split
    · split
      · exact (R_af_o h).trans (R_du_o h k)
      · exact (R_ap_o h).trans (R_du_o h k)
    · exact R_du_o h k
theorem R_du_6 {mem : ja_M} {b : Nat} : ∀ k, R_du mem b k b 6 = mem b 6
  | 0 => rfl
  | k + 1 => by
    simp only [R_du]
    split
    · split
      · exact R_af_6.trans (R_du_6 k)
      · exact R_ap_6.trans (R_du_6 k)
    · exact R_du_6 k
theorem R_du_RO {mem : ja_M} {b : Nat} {t : Int} (h : ja_RO mem b t) (ht : t ≤ 900000) : ∀ k : Nat, (k : Int) ≤ mem (b + 15) 4 → ja_RO (R_du mem b k) b t
  | 0, _ => h
  | k + 1, hk => by
    have ih := R_du_RO h ht k (by omega)
    have hv := h.2.2.2.2.1 k (by omega)
    have hn := h.2.2.2.1.2.2.1 k
    obtain ⟨n1, n2⟩ := hn
    simp only [R_du]
    split
    · split
      · rename_i h1 h2
        exact R_af_RO ih ht ⟨n1, hv.1 h2⟩
      · exact R_ap_RO ih
    · exact ih
theorem A_rem_sub {mem : ja_M} {a : Nat} {t : Int} : ∀ k : Nat, k ≤ 24 → ∀ j : Nat, (j : Int) < A_rem mem a t k a 4 → ∃ i : Nat, i < k ∧ A_rem mem a t k (a + 1) j = mem (a + 1) i ∧ A_rem mem a t k (a + 2) j = mem (a + 2) i ∧ A_rem mem a t k (a + 3) j = mem (a + 3) i ∧ A_rem mem a t k (a + 4) j = mem (a + 4) i
  | 0, _, j, hj => by
    simp only [A_rem, ja_up_s] at hj
    omega
  | k + 1, hk, j, hj => by
    have ih := @A_rem_sub mem a t k (by omega) j
    have hs := @A_rem_sz mem a t k (by omega)
    simp only [A_rem] at hj ⊢
    split
    · rename_i hc
      rw [if_pos hc] at hj
      obtain ⟨i, h1, h2⟩ := ih hj
      exact ⟨i, by omega, h2⟩
    · rename_i hc
      rw [if_neg hc] at hj
      have hlt : A_rem mem a t k a 4 < 24 := by omega
      unfold A_add at hj ⊢
      rw [if_pos hlt] at hj ⊢
      rw [ja_up_s] at hj
      by_cases hjs : j = (A_rem mem a t k a 4).toNat
      · subst hjs
        refine ⟨k, by omega, ?_, ?_, ?_, ?_⟩
        · rw [ja_up_a (by omega), ja_up_a (by omega), ja_up_a (by omega), ja_up_a (by omega), ja_up_s]
        · rw [ja_up_a (by omega), ja_up_a (by omega), ja_up_a (by omega), ja_up_s]
        · rw [ja_up_a (by omega), ja_up_a (by omega), ja_up_s]
        · rw [ja_up_a (by omega), ja_up_s]
      · obtain ⟨i, h1, g1, g2, g3, g4⟩ := ih (by omega)
        refine ⟨i, by omega, ?_, ?_, ?_, ?_⟩
        · rw [ja_up_a (by omega), ja_up_a (by omega), ja_up_a (by omega), ja_up_a (by omega), ja_up_j hjs]
          exact g1
        · rw [ja_up_a (by omega), ja_up_a (by omega), ja_up_a (by omega), ja_up_j hjs, ja_up_a (by omega)]
          exact g2
        · rw [ja_up_a (by omega), ja_up_a (by omega), ja_up_j hjs, ja_up_a (by omega), ja_up_a (by omega)]
          exact g3
        · rw [ja_up_a (by omega), ja_up_j hjs, ja_up_a (by omega), ja_up_a (by omega), ja_up_a (by omega)]
          exact g4
theorem A_rem_AO {mem : ja_M} {a : Nat} {t : Int} (h : ja_AO mem a) : ∀ k : Nat, k ≤ 24 → ja_AO (A_rem mem a t k) a
  | 0, _ => by
    obtain ⟨h0, h1, h2, h3, h4⟩ := h
    simp only [A_rem]
    refine ⟨by rw [ja_up_s]; omega, fun j => ?_, fun j => ?_, fun j => ?_, fun j => ?_⟩
    · rw [ja_up_a (by omega)]
      exact h1 j
    · rw [ja_up_a (by omega)]
      exact h2 j
    · rw [ja_up_a (by omega)]
      exact h3 j
    · rw [ja_up_a (by omega)]
      exact h4 j
  | k + 1, hk => by
    have ih := A_rem_AO (t := t) h k (by omega)
    simp only [A_rem]
    split
    · exact ih
    · exact A_add_AO ih (h.2.1 k) (h.2.2.1 k) (h.2.2.2.1 k) (h.2.2.2.2 k)
theorem A_rem_o {mem : ja_M} {a q : Nat} {t : Int} (h : q < a ∨ a + 5 ≤ q) : ∀ k, A_rem mem a t k q = mem q
  | 0 => by
    simp only [A_rem]
    exact ja_up_row (by omega)
  | k + 1 => by
    simp only [A_rem]
    split
    · exact A_rem_o h k
    · exact (A_add_o h).trans (A_rem_o h k)
theorem R_due_RO {mem : ja_M} {b : Nat} {t : Int} (h : ja_RO mem b t) (ht : t ≤ 900000) : ja_RO (R_due mem b) b t := by
  have h4 := h.2.2.2.1.1
  have hd := R_du_RO h ht (mem (b + 15) 4).toNat (by omega)
  have ho : ∀ q, q < b + 15 → R_due mem b q = R_du mem b (mem (b + 15) 4).toNat q := fun q hq => by
    unfold R_due
    exact A_rem_o (by omega) _
  have hk : (mem (b + 15) 4).toNat ≤ 24 := by omega
  obtain ⟨g1, g2, g3, g4, g5, g6, g7, g8, g9, g10, g11, g12⟩ := hd
  refine ⟨ja_SO_c (ho _ (by omega)) g1, ja_TO_c (ho _ (by omega)) (ho _ (by omega)) (ho _ (by omega)) g2, ja_PO_c (ho _ (by omega)) (ho _ (by omega)) (ho _ (by omega)) (ho _ (by omega)) g3, A_rem_AO g4 _ hk, ?_, by rw [ho _ (by omega)]; exact g6, by rw [ho _ (by omega)]; exact g7, by rw [ho _ (by omega)]; exact g8, by rw [ho _ (by omega), ho b (by omega)]; exact g9, by rw [ho _ (by omega), ho (b + 9) (by omega)]; exact g10, by rw [ho _ (by omega), ho (b + 9) (by omega)]; exact g11, by rw [ho _ (by omega), ho (b + 9) (by omega)]; exact g12⟩
  intro j hj
  obtain ⟨i, h1, e1, e2, e3, e4⟩ := A_rem_sub _ hk j hj
  have hv := g5 i (by rw [R_du_o (by omega)]; omega)
  rw [show R_due mem b (b + 15 + 1) j = _ from e1, show R_due mem b (b + 15 + 2) j = _ from e2, show R_due mem b (b + 15 + 3) j = _ from e3, ja_hasP_c (ho (b + 1) (by omega))]
  exact hv
theorem P_beg_o {mem : ja_M} {a q : Nat} {k : Int} (h : q ≠ a ∧ q ≠ a + 3) : P_beg mem a k q = mem q := by
  unfold P_beg
  rw [ja_up_row h.1, ja_up_row h.1, ja_up_row h.1, ja_up_row h.2]
theorem P_beg_s {mem : ja_M} {a : Nat} {k : Int} : P_beg mem a k a 1 = 0 ∧ P_beg mem a k a 2 = 0 ∧ P_beg mem a k a 4 = mem a 4 ∧ P_beg mem a k a 6 = mem a 6 + 1 := by
  unfold P_beg
  refine ⟨?_, ?_, ?_, ?_⟩
  · rw [ja_up_j (by omega), ja_up_s]
  · rw [ja_up_s]
  · rw [ja_up_j (by omega), ja_up_j (by omega), ja_up_j (by omega), ja_up_a (by omega)]
  · rw [ja_up_j (by omega), ja_up_j (by omega), ja_up_s]
theorem C_co_o {mem : ja_M} {a q : Nat} (h : q ≠ a) : C_co mem a q = mem q := by
  unfold C_co
  rw [ja_up_row h, ja_up_row h, ja_up_row h]
theorem C_kn_o {mem : ja_M} {a q : Nat} {k : Int} (h : q ≠ a) : C_kn mem a k q = mem q := by
  unfold C_kn
  rw [ja_up_row h]
  split
  · rw [ja_up_row h]
  · rw [ja_up_row h]
theorem C_kn_s {mem : ja_M} {a : Nat} {k : Int} : C_kn mem a k a 7 = 0 ∧ C_kn mem a k a 8 = mem a 8 ∧ C_kn mem a k a 2 = mem a 2 := by
  unfold C_kn
  refine ⟨by rw [ja_up_s], ?_, ?_⟩
  · rw [ja_up_j (by omega)]
    split <;> rw [ja_up_j (by omega)]
  · rw [ja_up_j (by omega)]
    split <;> rw [ja_up_j (by omega)]
theorem C_co_s {mem : ja_M} {a : Nat} : C_co mem a a 7 = mem a 7 + 1 ∧ C_co mem a a 8 = (if mem a 8 < mem a 7 + 1 then mem a 7 + 1 else mem a 8) ∧ C_co mem a a 2 = mem a 2 + 1 := by
  unfold C_co
  refine ⟨?_, ?_, ?_⟩
  · rw [ja_up_j (by omega), ja_up_s]
  · rw [ja_up_s]
  · rw [ja_up_j (by omega), ja_up_j (by omega), ja_up_s]
/-- a frame was taken: the player's and the counters' rows are new, all else is as it was -/
theorem R_taken {mem mem' : ja_M} {b : Nat} {t : Int} (h : ja_RO mem b t) (hn : mem (b + 9) 6 ≤ 999) (hq : ∀ q, q ≠ b + 9 → q ≠ b + 10 → q ≠ b + 12 → q ≠ b + 13 → q ≠ b + 14 → mem' q = mem q) (h1 : 0 ≤ mem' (b + 9) 1 ∧ mem' (b + 9) 1 ≤ 24) (h2 : mem' (b + 9) 2 = 0) (h4 : mem' (b + 9) 4 = mem (b + 9) 4) (h6 : mem' (b + 9) 6 = mem (b + 9) 6 + 1) (hf : ∀ j, ja_sp (mem' (b + 9 + 1) j)) (hs : ∀ j, ja_sp (mem' (b + 9 + 4) j)) (c7 : 0 ≤ mem' (b + 14) 7 ∧ mem' (b + 14) 7 ≤ mem (b + 14) 7 + 1) (c8 : 0 ≤ mem' (b + 14) 8 ∧ mem' (b + 14) 8 ≤ mem (b + 9) 6 + 1) (c2 : 0 ≤ mem' (b + 14) 2 ∧ mem' (b + 14) 2 ≤ mem (b + 14) 2 + 1) : ja_RO mem' b t := by
  obtain ⟨g1, g2, g3, g4, g5, g6, g7, g8, g9, g10, g11, g12⟩ := h
  obtain ⟨p1, p2, p3, p4, p5, p6⟩ := g3
  have hb := hq b (by omega) (by omega) (by omega) (by omega) (by omega)
  refine ⟨ja_SO_c (hq _ (by omega) (by omega) (by omega) (by omega) (by omega)) g1, ja_TO_c (hq _ (by omega) (by omega) (by omega) (by omega) (by omega)) (hq _ (by omega) (by omega) (by omega) (by omega) (by omega)) (hq _ (by omega) (by omega) (by omega) (by omega) (by omega)) g2, ⟨by omega, by omega, by omega, hf, fun j => by rw [hq (b + 9 + 2) (by omega) (by omega) (by omega) (by omega) (by omega)]; exact p5 j, hs⟩, ja_AO_c (fun q q1 q2 => hq q (by omega) (by omega) (by omega) (by omega) (by omega)) g4, ja_VO_c (hq _ (by omega) (by omega) (by omega) (by omega) (by omega)) (fun q q1 q2 => hq q (by omega) (by omega) (by omega) (by omega) (by omega)) g5, by rw [hb]; exact g6, by rw [hb]; exact g7, by rw [hb]; exact g8, by rw [hb]; omega, by omega, by omega, by omega⟩
end
section
theorem ja_wave_sp {mem : ja_M} {s : Nat} {x j : Int} : ja_sp (ja_wave mem s x j) := by
  unfold ja_wave
  generalize mem s 2 * ((x * mem s 0 + j) % mem s 1) = z
  exact ⟨by omega, by omega⟩
theorem P_ldr_in {mem : ja_M} {s : Nat} {x : Int} {f : Nat → Int} (hf : ∀ j, ja_sp (f j)) : ∀ k j, ja_sp (P_ldr mem s x f k j)
  | 0, j => hf j
  | k + 1, j => by
    simp only [P_ldr, ja_rs]
    split
    · exact ja_wave_sp
    · exact P_ldr_in hf k j
/-- samples were put: only the player's length, its frame, its source and counters of stretched and compressed may be new -/
def ja_Q (M M' : ja_M) (b : Nat) : Prop := (∀ q, q ≠ b + 9 → q ≠ b + 9 + 1 → q ≠ b + 9 + 4 → q ≠ b + 14 → M' q = M q) ∧ (∀ j, j ≠ 1 → M' (b + 9) j = M (b + 9) j) ∧ (0 ≤ M' (b + 9) 1 ∧ M' (b + 9) 1 ≤ 24) ∧ (∀ j, ja_sp (M' (b + 9 + 1) j)) ∧ (∀ j, ja_sp (M' (b + 9 + 4) j)) ∧ ∀ j, (j = 7 ∨ j = 8 ∨ j = 2) → M' (b + 14) j = M (b + 14) j
theorem Q_refl {M : ja_M} {b : Nat} (h1 : 0 ≤ M (b + 9) 1 ∧ M (b + 9) 1 ≤ 24) (hf : ∀ j, ja_sp (M (b + 9 + 1) j)) (hs : ∀ j, ja_sp (M (b + 9 + 4) j)) : ja_Q M M b := ⟨fun _ _ _ _ _ => rfl, fun _ _ => rfl, h1, hf, hs, fun _ _ => rfl⟩
theorem Q_pts {M M' : ja_M} {b : Nat} {h : Nat → Int} {k : Nat} (hQ : ja_Q M M' b) (hh : ∀ j, j < k → ja_sp (h j)) : ja_Q M (P_pts M' (b + 9) h k) b := by
  obtain ⟨q1, q2, q3, q4, q5, q6⟩ := hQ
  refine ⟨fun q a1 a2 a3 a4 => by rw [P_pts_o ⟨a1, a2⟩]; exact q1 q a1 a2 a3 a4, fun j hj => by rw [P_pts_j hj]; exact q2 j hj, P_pts_r q3 k, P_pts_f k hh q4, fun j => by rw [P_pts_o ⟨by omega, by omega⟩]; exact q5 j, fun j hj => by rw [P_pts_o ⟨by omega, by omega⟩]; exact q6 j hj⟩
theorem Q_rw {M M' : ja_M} {b : Nat} {g : Nat → Int} (hQ : ja_Q M M' b) (hg : ∀ j, ja_sp (g j)) : ja_Q M (ja_rw M' (b + 9 + 4) g) b := by
  obtain ⟨q1, q2, q3, q4, q5, q6⟩ := hQ
  refine ⟨fun q a1 a2 a3 a4 => by rw [ja_rw_n a3]; exact q1 q a1 a2 a3 a4, fun j hj => by rw [ja_rw_n (by omega)]; exact q2 j hj, by rw [ja_rw_n (by omega)]; exact q3, fun j => by rw [ja_rw_n (by omega)]; exact q4 j, fun j => by rw [ja_rw_s]; exact hg j, fun j hj => by rw [ja_rw_n (by omega)]; exact q6 j hj⟩
theorem Q_ct {M M' : ja_M} {b c : Nat} {z : Int} (hQ : ja_Q M M' b) (hc : c = 3 ∨ c = 4) : ja_Q M (ja_up M' (b + 14) c z) b := by
  obtain ⟨q1, q2, q3, q4, q5, q6⟩ := hQ
  refine ⟨fun q a1 a2 a3 a4 => by rw [ja_up_row a4]; exact q1 q a1 a2 a3 a4, fun j hj => by rw [ja_up_a (by omega)]; exact q2 j hj, by rw [ja_up_a (by omega)]; exact q3, fun j => by rw [ja_up_a (by omega)]; exact q4 j, fun j => by rw [ja_up_a (by omega)]; exact q5 j, fun j hj => by rw [ja_up_j (by omega)]; exact q6 j hj⟩
theorem P_cpr_Q {M M' : ja_M} {b : Nat} {n : Int} (hQ : ja_Q M M' b) (hn : 4 ≤ n ∧ n ≤ 16) : ja_Q M (P_cpr M' (b + 9) n) b := by
  have hs := hQ.2.2.2.2.1
  have hl := P_lg_in (ex := 1) hs (n / 2 - 2).toNat (by omega)
  unfold P_cpr
  refine Q_pts (Q_pts hQ (fun j hj => P_mx_in (hs _) (hs _) ⟨by omega, by omega⟩ (by omega))) (fun j _ => hs _)
theorem P_str_Q {M M' : ja_M} {b : Nat} {n : Int} (hQ : ja_Q M M' b) (hn : 4 ≤ n ∧ n ≤ 16) : ja_Q M (P_str M' (b + 9) n) b := by
  have hs := hQ.2.2.2.2.1
  have hl := P_lg_in (ex := 1) hs (n / 2 - 2).toNat (by omega)
  unfold P_str
  refine Q_pts (Q_pts (Q_pts hQ (fun j _ => hs _)) (fun j hj => P_mx_in (hs _) (hs _) ⟨by omega, by omega⟩ (by omega))) (fun j _ => hs _)
theorem P_con_Q {M : ja_M} {b : Nat} {n g : Int} (hQ : ja_Q M M b) (h2 : ∀ j, ja_sp (M (b + 9 + 2) j)) : ja_Q M (P_con M (b + 9) n g) b := by
  have hs := hQ.2.2.2.2.1
  unfold P_con
  exact Q_pts (Q_rw hQ (P_srr_in h2 hs _)) (fun j _ => P_csm_in h2 hs j)
theorem R_lw_Q {M : ja_M} {b : Nat} {x : Int} (hQ : ja_Q M M b) : ja_Q M (R_lw M b x) b := by
  have hs := hQ.2.2.2.2.1
  unfold R_lw
  exact Q_rw hQ (P_ldr_in hs _)
theorem R_pkn_Q {M : ja_M} {b : Nat} {x : Int} (hQ : ja_Q M M b) (hO : ja_SO M (b + 1)) : ja_Q M (R_pkn M b x) b := by
  have hw := R_lw_Q (x := x) hQ
  have hn : 4 ≤ M (b + 1) 0 ∧ M (b + 1) 0 ≤ 16 := hO.1
  unfold R_pkn
  split
  · exact P_cpr_Q (Q_ct hw (by omega)) hn
  · split
    · exact P_str_Q (Q_ct hw (by omega)) hn
    · exact Q_pts hw (fun j _ => hw.2.2.2.2.1 _)
theorem R_tf_RO {mem : ja_M} {b : Nat} {t : Int} (h : ja_RO mem b t) (hn : mem (b + 9) 6 ≤ 999) : ja_RO (R_tf mem b (mem (b + 9) 6)) b t := by
  have h0 := h
  obtain ⟨g1, g2, g3, g4, g5, g6, g7, g8, g9, g10, g11, g12⟩ := h
  obtain ⟨p1, p2, p3, p4, p5, p6⟩ := g3
  unfold R_tf
  split
  · obtain ⟨s1, s2, s4, s6⟩ := @P_beg_s (C_co mem (b + 14)) (b + 9) 3
    obtain ⟨c7, c8, c2⟩ := @C_co_s mem (b + 14)
    have hM : ja_Q (P_beg (C_co mem (b + 14)) (b + 9) 3) (P_beg (C_co mem (b + 14)) (b + 9) 3) b := Q_refl (by omega) (fun j => by rw [P_beg_o ⟨by omega, by omega⟩, C_co_o (by omega)]; exact p4 j) (fun j => by rw [P_beg_o ⟨by omega, by omega⟩, C_co_o (by omega)]; exact p6 j)
    obtain ⟨q1, q2, q3, q4, q5, q6⟩ := P_con_Q (n := mem (b + 1) 0) (g := mem (b + 14) 7 + 1) hM (fun j => by rw [P_beg_o ⟨by omega, by omega⟩, C_co_o (by omega)]; exact p5 j)
    refine R_taken h0 hn (fun q a1 a2 a3 a4 a5 => by rw [q1 q a1 a2 (by omega) a5, P_beg_o ⟨a1, by omega⟩, C_co_o a5]) q3 (by rw [q2 2 (by omega), s2]) (by rw [q2 4 (by omega), s4, C_co_o (by omega)]) (by rw [q2 6 (by omega), s6, C_co_o (by omega)]) q4 q5 ?_ ?_ ?_
    · rw [q6 7 (by omega), P_beg_o ⟨by omega, by omega⟩, c7]
      omega
    · rw [q6 8 (by omega), P_beg_o ⟨by omega, by omega⟩, c8]
      split <;> omega
    · rw [q6 2 (by omega), P_beg_o ⟨by omega, by omega⟩, c2]
      omega
  · generalize (if F_st mem (b + 1) (b + 2) (mem (b + 9) 6) = 2 then (1 : Int) else 2) = kd
    obtain ⟨s1, s2, s4, s6⟩ := @P_beg_s (C_kn mem (b + 14) kd) (b + 9) kd
    obtain ⟨c7, c8, c2⟩ := @C_kn_s mem (b + 14) kd
    have hM : ja_Q (P_beg (C_kn mem (b + 14) kd) (b + 9) kd) (P_beg (C_kn mem (b + 14) kd) (b + 9) kd) b := Q_refl (by omega) (fun j => by rw [P_beg_o ⟨by omega, by omega⟩, C_kn_o (by omega)]; exact p4 j) (fun j => by rw [P_beg_o ⟨by omega, by omega⟩, C_kn_o (by omega)]; exact p6 j)
    obtain ⟨q1, q2, q3, q4, q5, q6⟩ := R_pkn_Q (x := mem (b + 9) 6) hM (ja_SO_c (by rw [P_beg_o ⟨by omega, by omega⟩, C_kn_o (by omega)]) g1)
    refine R_taken h0 hn (fun q a1 a2 a3 a4 a5 => by rw [q1 q a1 a2 (by omega) a5, P_beg_o ⟨a1, by omega⟩, C_kn_o a5]) q3 (by rw [q2 2 (by omega), s2]) (by rw [q2 4 (by omega), s4, C_kn_o (by omega)]) (by rw [q2 6 (by omega), s6, C_kn_o (by omega)]) q4 q5 ?_ ?_ ?_
    · rw [q6 7 (by omega), P_beg_o ⟨by omega, by omega⟩, c7]
      omega
    · rw [q6 8 (by omega), P_beg_o ⟨by omega, by omega⟩, c8]
      omega
    · rw [q6 2 (by omega), P_beg_o ⟨by omega, by omega⟩, c2]
      omega
theorem P_out_o {mem : ja_M} {a q : Nat} (h : q ≠ a ∧ q ≠ a + 2) : P_out mem a q = mem q := by
  unfold P_out
  split
  · rw [ja_up_row h.1, ja_up_row h.1, ja_up_row h.2]
  · rfl
theorem P_out_PO {mem : ja_M} {a : Nat} (h : ja_PO mem a) (h4 : mem a 4 ≤ 999999) : ja_PO (P_out mem a) a ∧ P_out mem a a 4 ≤ mem a 4 + 1 ∧ P_out mem a a 6 = mem a 6 := by
  have h0 := h
  obtain ⟨p1, p2, p3, p4, p5, p6⟩ := h
  unfold P_out
  split
  · have e1 : ∀ m z1 z2, ja_up (ja_up m a 4 z1) a 2 z2 a 1 = m a 1 := fun m z1 z2 => by rw [ja_up_j (by omega), ja_up_j (by omega)]
    refine ⟨⟨?_, ?_, ?_, fun j => ?_, fun j => ?_, fun j => ?_⟩, ?_, ?_⟩
    · rw [ja_up_s, e1, ja_up_a (by omega)]
      omega
    · rw [ja_up_j (by omega), ja_up_s]
      omega
    · rw [ja_up_j (by omega), ja_up_j (by omega), ja_up_a (by omega)]
      omega
    · rw [ja_up_a (by omega), ja_up_a (by omega), ja_up_a (by omega)]
      exact p4 j
    · rw [ja_up_a (by omega), ja_up_a (by omega)]
      by_cases hj : j = (mem a 4 % 256).toNat
      · subst hj
        rw [ja_up_s]
        exact p4 _
      · rw [ja_up_j hj]
        exact p5 j
    · rw [ja_up_a (by omega), ja_up_a (by omega), ja_up_a (by omega)]
      exact p6 j
    · rw [ja_up_j (by omega), ja_up_s]
      omega
    · rw [ja_up_j (by omega), ja_up_j (by omega), ja_up_a (by omega)]
  · exact ⟨h0, by omega, rfl⟩
/-- but for the outputs, that may be one more than the time -/
theorem R_pl_RO {mem : ja_M} {b : Nat} {t : Int} (h : ja_RO mem b t) (ht : t ≤ 900000) : ja_PO (R_pl mem b) (b + 9) ∧ R_pl mem b (b + 9) 4 ≤ mem b 6 + 1 ∧ (∃ M, ja_RO M b t ∧ M b = mem b ∧ R_pl mem b (b + 9) 6 = M (b + 9) 6 ∧ ∀ q, q ≠ b + 9 → q ≠ b + 11 → R_pl mem b q = M q) := by
  have h0 := h
  obtain ⟨g1, g2, g3, g4, g5, g6, g7, g8, g9, g10, g11, g12⟩ := h
  unfold R_pl
  split
  · have key : ∀ M, ja_RO M b t → M b = mem b → ja_PO (P_out M (b + 9)) (b + 9) ∧ P_out M (b + 9) (b + 9) 4 ≤ mem b 6 + 1 ∧ (∃ M', ja_RO M' b t ∧ M' b = mem b ∧ P_out M (b + 9) (b + 9) 6 = M' (b + 9) 6 ∧ ∀ q, q ≠ b + 9 → q ≠ b + 11 → P_out M (b + 9) q = M' q) := by
      intro M hM hMb
      have h9 : M (b + 9) 4 ≤ M b 6 := hM.2.2.2.2.2.2.2.2.1
      rw [hMb] at h9
      obtain ⟨o1, o2, o3⟩ := P_out_PO hM.2.2.1 (by omega)
      exact ⟨o1, by omega, M, hM, hMb, o3, fun q q1 q2 => P_out_o ⟨q1, by omega⟩⟩
    split
    · rename_i hc
      refine key _ (R_tf_RO h0 hc.2) ?_
      have hb : R_tf mem b (mem (b + 9) 6) b = mem b := by
        obtain ⟨p1, p2, p3, p4, p5, p6⟩ := g3
        unfold R_tf
        split
        · obtain ⟨s1, s2, s4, s6⟩ := @P_beg_s (C_co mem (b + 14)) (b + 9) 3
          have hM : ja_Q (P_beg (C_co mem (b + 14)) (b + 9) 3) (P_beg (C_co mem (b + 14)) (b + 9) 3) b := Q_refl (by omega) (fun j => by rw [P_beg_o ⟨by omega, by omega⟩, C_co_o (by omega)]; exact p4 j) (fun j => by rw [P_beg_o ⟨by omega, by omega⟩, C_co_o (by omega)]; exact p6 j)
          rw [(P_con_Q (n := mem (b + 1) 0) (g := mem (b + 14) 7 + 1) hM (fun j => by rw [P_beg_o ⟨by omega, by omega⟩, C_co_o (by omega)]; exact p5 j)).1 b (by omega) (by omega) (by omega) (by omega), P_beg_o ⟨by omega, by omega⟩, C_co_o (by omega)]
        · generalize (if F_st mem (b + 1) (b + 2) (mem (b + 9) 6) = 2 then (1 : Int) else 2) = kd
          obtain ⟨s1, s2, s4, s6⟩ := @P_beg_s (C_kn mem (b + 14) kd) (b + 9) kd
          have hM : ja_Q (P_beg (C_kn mem (b + 14) kd) (b + 9) kd) (P_beg (C_kn mem (b + 14) kd) (b + 9) kd) b := Q_refl (by omega) (fun j => by rw [P_beg_o ⟨by omega, by omega⟩, C_kn_o (by omega)]; exact p4 j) (fun j => by rw [P_beg_o ⟨by omega, by omega⟩, C_kn_o (by omega)]; exact p6 j)
          rw [(R_pkn_Q (x := mem (b + 9) 6) hM (ja_SO_c (by rw [P_beg_o ⟨by omega, by omega⟩, C_kn_o (by omega)]) g1)).1 b (by omega) (by omega) (by omega) (by omega), P_beg_o ⟨by omega, by omega⟩, C_kn_o (by omega)]
      exact hb
    · exact key mem h0 rfl
  · exact ⟨g3, by omega, mem, h0, rfl, rfl, fun _ _ _ => rfl⟩
theorem R_tk_RO {mem : ja_M} {b : Nat} {t : Int} (h : ja_RO mem b t) (ht : t ≤ 900000) : ja_RO (R_tk mem b) b (t + 1) := by
  have hd := R_due_RO h ht
  obtain ⟨hP, h4, M, hM, hMb, h6, ho⟩ := R_pl_RO hd ht
  obtain ⟨g1, g2, g3, g4, g5, g6, g7, g8, g9, g10, g11, g12⟩ := hM
  have hb := ho b (by omega) (by omega)
  have hr : ∀ q, q ≠ b → R_tk mem b q = R_pl (R_due mem b) b q := fun q hq => by
    unfold R_tk
    exact ja_up_row hq
  have hx : ∀ q, q ≠ b → q ≠ b + 9 → q ≠ b + 11 → R_tk mem b q = M q := fun q a1 a2 a3 => by rw [hr q a1, ho q a2 a3]
  have e6 : R_tk mem b b 6 = M b 6 + 1 := by
    unfold R_tk
    rw [ja_up_s, hb]
  have ej : ∀ j, j ≠ 6 → R_tk mem b b j = M b j := fun j hj => by
    unfold R_tk
    rw [ja_up_j hj, hb]
  rw [← hMb] at h4
  refine ⟨ja_SO_c (hx _ (by omega) (by omega) (by omega)) g1, ja_TO_c (hx _ (by omega) (by omega) (by omega)) (hx _ (by omega) (by omega) (by omega)) (hx _ (by omega) (by omega) (by omega)) g2, ja_PO_c (hr _ (by omega)) (hr _ (by omega)) (hr _ (by omega)) (hr _ (by omega)) hP, ja_AO_c (fun q q1 q2 => hx q (by omega) (by omega) (by omega)) g4, ja_VO_c (hx _ (by omega) (by omega) (by omega)) (fun q q1 q2 => hx q (by omega) (by omega) (by omega)) g5, by rw [e6]; omega, by rw [ej 7 (by omega)]; exact g7, by rw [ej 8 (by omega)]; omega, by rw [e6, hr (b + 9) (by omega)]; exact h4, by rw [hx (b + 14) (by omega) (by omega) (by omega), hr (b + 9) (by omega), h6]; exact g10, by rw [hx (b + 14) (by omega) (by omega) (by omega), hr (b + 9) (by omega), h6]; exact g11, by rw [hx (b + 14) (by omega) (by omega) (by omega), hr (b + 9) (by omega), h6]; exact g12⟩
end
section
theorem T_spr_in {mem : ja_M} {a : Nat} {q : Int} (h : ja_TO mem a) : -2000000 ≤ T_spr mem a q ∧ T_spr mem a q ≤ 2000000 := by
  have h1 := h.2.2.2 ((q * mem a 2 + 99) / 100 - 1).toNat
  have h2 := h.2.2.2 0
  obtain ⟨a1, a2⟩ := h1
  obtain ⟨b1, b2⟩ := h2
  unfold T_spr
  split <;> omega
theorem R_tg_in {mem : ja_M} {b : Nat} (hS : ja_SO mem (b + 1)) (hT : ja_TO mem (b + 6)) : -2000000 ≤ R_tg mem b ∧ R_tg mem b ≤ 2000100 := by
  have h := @T_spr_in mem (b + 6) (mem (b + 1) 6) hT
  have h7 := hS.2.2.2.2.2.2.2.1
  unfold R_tg
  omega
theorem R_lv_in {mem : ja_M} {b : Nat} {x : Int} (hS : ja_SO mem (b + 1)) (hx : 0 ≤ x ∧ x ≤ 1000) : 0 ≤ R_lv mem b x ∧ R_lv mem b x ≤ 16000 := by
  have h := @F_fr_le mem (b + 1) (b + 2) (1000 - x).toNat x
  have h0 := hS.1
  have := ja_mulb (by omega : 0 ≤ mem (b + 1) 0) h0.2 (by omega : 0 ≤ F_fr mem (b + 1) (b + 2) x (1000 - x).toNat - x) (by omega : F_fr mem (b + 1) (b + 2) x (1000 - x).toNat - x ≤ 1000)
  unfold R_lv
  omega
theorem R_lw_PO {mem : ja_M} {b : Nat} {x : Int} (h : ja_PO mem (b + 9)) : ja_PO (R_lw mem b x) (b + 9) := by
  obtain ⟨p1, p2, p3, p4, p5, p6⟩ := h
  unfold R_lw
  refine ⟨?_, ?_, ?_, fun j => ?_, fun j => ?_, fun j => ?_⟩
  · rw [ja_rw_n (by omega)]
    exact p1
  · rw [ja_rw_n (by omega)]
    exact p2
  · rw [ja_rw_n (by omega)]
    exact p3
  · rw [ja_rw_n (by omega)]
    exact p4 j
  · rw [ja_rw_n (by omega)]
    exact p5 j
  · rw [ja_rw_s]
    exact P_ldr_in p6 _ j
theorem P_beg_PO {mem : ja_M} {a : Nat} {k : Int} (h : ja_PO mem a) (h6 : mem a 6 ≤ 999) : ja_PO (P_beg mem a k) a := by
  obtain ⟨p1, p2, p3, p4, p5, p6⟩ := h
  obtain ⟨s1, s2, s4, s6⟩ := @P_beg_s mem a k
  refine ⟨by omega, by omega, by omega, fun j => ?_, fun j => ?_, fun j => ?_⟩
  · rw [P_beg_o ⟨by omega, by omega⟩]
    exact p4 j
  · rw [P_beg_o ⟨by omega, by omega⟩]
    exact p5 j
  · rw [P_beg_o ⟨by omega, by omega⟩]
    exact p6 j
end
section
-- copies
def S_cp (mem : ja_M) (a o : Nat) : ja_M := ja_up (ja_up (ja_up (ja_up (ja_up (ja_up (ja_up (ja_up (ja_up mem a 0 (mem o 0)) a 1 (mem o 1)) a 2 (mem o 2)) a 3 (mem o 3)) a 4 (mem o 4)) a 5 (mem o 5)) a 6 (mem o 6)) a 7 (mem o 7)) a 8 (mem o 8)
def F_cpy (mem : ja_M) (f o : Nat) : ja_M := ja_cp (ja_cp (ja_cp mem (o + 1) (f + 1) 0 0 250) (o + 2) (f + 2) 0 0 250) (o + 3) (f + 3) 0 0 250
def R_c1 (mem : ja_M) (b o : Nat) : ja_M := S_cp mem (b + 1) (o + 1)
def R_c2 (mem : ja_M) (b o : Nat) : ja_M := F_cpy (R_c1 mem b o) (b + 2) (o + 2)
def R_c3 (mem : ja_M) (b o : Nat) : ja_M := T_cp (R_c2 mem b o) (b + 6) (o + 6)
def R_c4 (mem : ja_M) (b o : Nat) : ja_M := P_cp2 (R_c3 mem b o) (b + 9) (o + 9)
def R_c5 (mem : ja_M) (b o : Nat) : ja_M := C_cp (R_c4 mem b o) (b + 14) (o + 14)
def R_c6 (mem : ja_M) (b o : Nat) : ja_M := A_all (ja_up (R_c5 mem b o) (b + 15) 4 0) (b + 15) (o + 15) ((R_c5 mem b o) (o + 15) 4).toNat
def R_cp (mem : ja_M) (b o : Nat) : ja_M := ja_up (ja_up (ja_up (R_c6 mem b o) b 6 (R_c6 mem b o o 6)) b 7 (R_c6 mem b o o 7)) b 8 (R_c6 mem b o o 8)
theorem S_cp_o {mem : ja_M} {a o q : Nat} (h : q ≠ a) : S_cp mem a o q = mem q := by
  unfold S_cp
  rw [ja_up_row h, ja_up_row h, ja_up_row h, ja_up_row h, ja_up_row h, ja_up_row h, ja_up_row h, ja_up_row h, ja_up_row h]
theorem C_cp_o {mem : ja_M} {a o q : Nat} (h : q ≠ a) : C_cp mem a o q = mem q := by
  unfold C_cp
  rw [ja_up_row h, ja_up_row h, ja_up_row h, ja_up_row h, ja_up_row h, ja_up_row h, ja_up_row h, ja_up_row h, ja_up_row h]
theorem S_cp_s {mem : ja_M} {a o j : Nat} (h : j < 9) : S_cp mem a o a j = mem o j := by
  rcases (show j = 0 ∨ j = 1 ∨ j = 2 ∨ j = 3 ∨ j = 4 ∨ j = 5 ∨ j = 6 ∨ j = 7 ∨ j = 8 by omega) with rfl | rfl | rfl | rfl | rfl | rfl | rfl | rfl | rfl <;> simp [S_cp, ja_up]
theorem C_cp_s {mem : ja_M} {a o j : Nat} (h : j < 9) : C_cp mem a o a j = mem o j := by
  rcases (show j = 0 ∨ j = 1 ∨ j = 2 ∨ j = 3 ∨ j = 4 ∨ j = 5 ∨ j = 6 ∨ j = 7 ∨ j = 8 by omega) with rfl | rfl | rfl | rfl | rfl | rfl | rfl | rfl | rfl <;> simp [C_cp, ja_up]
theorem F_cpy_o {mem : ja_M} {f o q : Nat} (h : q < f + 1 ∨ f + 4 ≤ q) : F_cpy mem f o q = mem q := by
  unfold F_cpy
  rw [ja_cp_o _ (by omega), ja_cp_o _ (by omega), ja_cp_o _ (by omega)]
theorem T_cp_o {mem : ja_M} {a o q : Nat} (h : q < a ∨ a + 3 ≤ q) : T_cp mem a o q = mem q := by
  unfold T_cp
  rw [ja_up_row (by omega), ja_up_row (by omega), ja_cp_o _ (by omega), ja_cp_o _ (by omega)]
theorem P_cp2_o {mem : ja_M} {a o q : Nat} (h : q < a ∨ a + 4 ≤ q) : P_cp2 mem a o q = mem q := by
  unfold P_cp2
  rw [ja_up_row (by omega), ja_cp_o _ (by omega), ja_up_row (by omega), ja_cp_o _ (by omega), ja_up_row (by omega), ja_up_row (by omega), ja_cp_o _ (by omega)]
theorem ja_cp_P {mem : ja_M} {a0 a1 k : Nat} {P : Int → Prop} (h0 : ∀ j, P (mem a0 j)) (h1 : ∀ j, P (mem a1 j)) (j : Nat) : P (ja_cp mem a0 a1 0 0 k a1 j) := by
  unfold ja_cp
  split
  · exact h0 _
  · exact h1 j
theorem R_c5_o {mem : ja_M} {b o q : Nat} (h : q < b + 1 ∨ b + 15 ≤ q) : R_c5 mem b o q = mem q := by
  unfold R_c5 R_c4 R_c3 R_c2 R_c1
  rw [C_cp_o (by omega), P_cp2_o (by omega), T_cp_o (by omega), F_cpy_o (by omega), S_cp_o (by omega)]
theorem R_c6_o {mem : ja_M} {b o q : Nat} (h : q < b + 1 ∨ b + 20 ≤ q) : R_c6 mem b o q = mem q := by
  unfold R_c6
  rw [A_all_o (by omega), ja_up_row (by omega), R_c5_o (by omega)]
theorem R_cp_o {mem : ja_M} {b o q : Nat} (h : q < b ∨ b + 20 ≤ q) : R_cp mem b o q = mem q := by
  unfold R_cp
  rw [ja_up_row (by omega), ja_up_row (by omega), ja_up_row (by omega), R_c6_o (by omega)]
theorem A_all_AO {mem : ja_M} {a o : Nat} (h : ja_AO mem a) (ho : ja_AO mem o) : ∀ k, ja_AO (A_all mem a o k) a
  | 0 => h
  | k + 1 => A_add_AO (A_all_AO h ho k) (ho.2.1 k) (ho.2.2.1 k) (ho.2.2.2.1 k) (ho.2.2.2.2 k)
/-- a copy from the empty: the first k entries -/
theorem A_all_is {mem : ja_M} {a o : Nat} (h0 : mem a 4 = 0) (hao : a + 5 ≤ o ∨ o + 5 ≤ a) : ∀ k : Nat, k ≤ 24 → A_all mem a o k a 4 = k ∧ ∀ j, j < k → A_all mem a o k (a + 1) j = mem (o + 1) j ∧ A_all mem a o k (a + 2) j = mem (o + 2) j ∧ A_all mem a o k (a + 3) j = mem (o + 3) j ∧ A_all mem a o k (a + 4) j = mem (o + 4) j
  | 0, _ => ⟨h0, fun j hj => by omega⟩
  | k + 1, hk => by
    obtain ⟨ih, ij⟩ := A_all_is h0 hao k (by omega)
    have hlt : A_all mem a o k a 4 < 24 := by omega
    have hkn : (A_all mem a o k a 4).toNat = k := by omega
    simp only [A_all]
    unfold A_add
    rw [if_pos hlt, hkn]
    refine ⟨by rw [ja_up_s, ih]; omega, fun j hj => ?_⟩
    by_cases hjk : j = k
    · subst hjk
      refine ⟨?_, ?_, ?_, ?_⟩
      · rw [ja_up_a (by omega), ja_up_a (by omega), ja_up_a (by omega), ja_up_a (by omega), ja_up_s]
      · rw [ja_up_a (by omega), ja_up_a (by omega), ja_up_a (by omega), ja_up_s]
      · rw [ja_up_a (by omega), ja_up_a (by omega), ja_up_s]
      · rw [ja_up_a (by omega), ja_up_s]
    · obtain ⟨e1, e2, e3, e4⟩ := ij j (by omega)
      refine ⟨?_, ?_, ?_, ?_⟩
      · rw [ja_up_a (by omega), ja_up_a (by omega), ja_up_a (by omega), ja_up_a (by omega), ja_up_j hjk]
        exact e1
      · rw [ja_up_a (by omega), ja_up_a (by omega), ja_up_a (by omega), ja_up_j hjk, ja_up_a (by omega)]
        exact e2
      · rw [ja_up_a (by omega), ja_up_a (by omega), ja_up_j hjk, ja_up_a (by omega), ja_up_a (by omega)]
        exact e3
      · rw [ja_up_a (by omega), ja_up_j hjk, ja_up_a (by omega), ja_up_a (by omega), ja_up_a (by omega)]
        exact e4
theorem R_cp_RO {mem : ja_M} {b o : Nat} {t t' : Int} (h : ja_RO mem o t) (hb : ja_RO mem b t') (hbo : b + 20 ≤ o ∨ o + 20 ≤ b) : ja_RO (R_cp mem b o) b t := by
  obtain ⟨g1, g2, g3, g4, g5, g6, g7, g8, g9, g10, g11, g12⟩ := h
  obtain ⟨f1, f2, f3, f4, f5, -⟩ := hb
  obtain ⟨p1, p2, p3, p4, p5, p6⟩ := g3
  obtain ⟨q1, q2, q3, q4, q5, q6⟩ := f3
  obtain ⟨t2, t3, t4, t5⟩ := g2
  obtain ⟨u2, u3, u4, u5⟩ := f2
  -- rows of the copy
  have hx : ∀ q, q ≠ b → q < b + 15 → R_cp mem b o q = R_c5 mem b o q := fun q a1 a2 => by
    unfold R_cp R_c6
    rw [ja_up_row a1, ja_up_row a1, ja_up_row a1, A_all_o (by omega), ja_up_row (by omega)]
  have r1 : R_cp mem b o (b + 1) = S_cp mem (b + 1) (o + 1) (b + 1) := by
    rw [hx _ (by omega) (by omega)]
    unfold R_c5 R_c4 R_c3 R_c2 R_c1
    rw [C_cp_o (by omega), P_cp2_o (by omega), T_cp_o (by omega), F_cpy_o (by omega)]
  have o2 : ∀ q, q ≠ b + 1 → (q < b + 3 ∨ b + 6 ≤ q) → R_c2 mem b o q = mem q := fun q a1 a2 => by
    unfold R_c2 R_c1
    rw [F_cpy_o (by omega), S_cp_o a1]
  have r6 : ∀ q, b + 6 ≤ q → q < b + 9 → R_cp mem b o q = R_c3 mem b o q := fun q a1 a2 => by
    rw [hx _ (by omega) (by omega)]
    unfold R_c5 R_c4
    rw [C_cp_o (by omega), P_cp2_o (by omega)]
  have o3 : ∀ q, (q < b + 1 ∨ b + 9 ≤ q) → R_c3 mem b o q = mem q := fun q a1 => by
    unfold R_c3
    rw [T_cp_o (by omega), o2 q (by omega) (by omega)]
  have r9 : ∀ q, b + 9 ≤ q → q < b + 14 → R_cp mem b o q = R_c4 mem b o q := fun q a1 a2 => by
    rw [hx _ (by omega) (by omega)]
    unfold R_c5
    rw [C_cp_o (by omega)]
  have o4 : ∀ q, (q < b + 1 ∨ b + 14 ≤ q) → R_c4 mem b o q = mem q := fun q a1 => by
    unfold R_c4
    rw [P_cp2_o (by omega), o3 q (by omega)]
  have c14 : ∀ j, j < 9 → R_cp mem b o (b + 14) j = mem (o + 14) j := fun j hj => by
    rw [hx _ (by omega) (by omega)]
    unfold R_c5
    rw [C_cp_s hj, o4 _ (by omega)]
  have s1 : ∀ j, j < 9 → R_cp mem b o (b + 1) j = mem (o + 1) j := fun j hj => by rw [r1, S_cp_s hj]
  have e4 : R_c4 mem b o (b + 9) 1 = mem (o + 9) 1 ∧ R_c4 mem b o (b + 9) 2 = mem (o + 9) 2 ∧ R_c4 mem b o (b + 9) 4 = mem (o + 9) 4 ∧ R_c4 mem b o (b + 9) 6 = mem (o + 9) 6 := by
    unfold R_c4 P_cp2
    rw [o3 (o + 9) (by omega)]
    refine ⟨?_, ?_, ?_, ?_⟩
    · rw [ja_up_j (by omega), ja_cp_o _ (by omega), ja_up_j (by omega), ja_cp_o _ (by omega), ja_up_j (by omega), ja_up_s]
    · rw [ja_up_j (by omega), ja_cp_o _ (by omega), ja_up_j (by omega), ja_cp_o _ (by omega), ja_up_s]
    · rw [ja_up_j (by omega), ja_cp_o _ (by omega), ja_up_s]
    · rw [ja_up_s]
  obtain ⟨k1, k2, k4, k6⟩ := e4
  have rb : ∀ j, (j = 6 ∨ j = 7 ∨ j = 8) → R_cp mem b o b j = mem o j := fun j hj => by
    unfold R_cp
    rw [R_c6_o (show o < b + 1 ∨ b + 20 ≤ o by omega)]
    rcases hj with rfl | rfl | rfl
    · rw [ja_up_j (by omega), ja_up_j (by omega), ja_up_s]
    · rw [ja_up_j (by omega), ja_up_s]
    · rw [ja_up_s]
  have ha : ∀ q, b + 15 ≤ q → R_cp mem b o q = R_c6 mem b o q := fun q a1 => by
    unfold R_cp
    rw [ja_up_row (by omega), ja_up_row (by omega), ja_up_row (by omega)]
  have m5 : ∀ q, q ≠ b + 15 → (q < b + 1 ∨ b + 15 ≤ q) → ja_up (R_c5 mem b o) (b + 15) 4 0 q = mem q := fun q a1 a2 => by rw [ja_up_row a1, R_c5_o (by omega)]
  have hsz : (R_c5 mem b o) (o + 15) 4 = mem (o + 15) 4 := by rw [R_c5_o (by omega)]
  have hzz := g4.1
  have hAb : ja_AO (ja_up (R_c5 mem b o) (b + 15) 4 0) (b + 15) := ⟨by rw [ja_up_s]; omega, fun j => by rw [m5 _ (by omega) (by omega)]; exact f4.2.1 j, fun j => by rw [m5 _ (by omega) (by omega)]; exact f4.2.2.1 j, fun j => by rw [m5 _ (by omega) (by omega)]; exact f4.2.2.2.1 j, fun j => by rw [m5 _ (by omega) (by omega)]; exact f4.2.2.2.2 j⟩
  have hAo : ja_AO (ja_up (R_c5 mem b o) (b + 15) 4 0) (o + 15) := ja_AO_c (fun q a1 a2 => m5 q (by omega) (by omega)) g4
  have hIs := A_all_is (mem := ja_up (R_c5 mem b o) (b + 15) 4 0) (a := b + 15) (o := o + 15) (by rw [ja_up_s]) (by omega) (mem (o + 15) 4).toNat (by omega)
  have hA6 : R_c6 mem b o = A_all (ja_up (R_c5 mem b o) (b + 15) 4 0) (b + 15) (o + 15) (mem (o + 15) 4).toNat := by
    unfold R_c6
    rw [hsz]
  obtain ⟨i4, ij⟩ := hIs
  refine ⟨?_, ⟨?_, ?_, fun j => ?_, fun j => ?_⟩, ⟨?_, ?_, ?_, fun j => ?_, fun j => ?_, fun j => ?_⟩, ?_, ?_, by rw [rb 6 (by omega)]; exact g6, by rw [rb 7 (by omega)]; exact g7, by rw [rb 8 (by omega)]; exact g8, ?_, ?_, ?_, ?_⟩
  · unfold ja_SO
    rw [s1 0 (by omega), s1 1 (by omega), s1 2 (by omega), s1 3 (by omega), s1 4 (by omega), s1 5 (by omega), s1 6 (by omega), s1 7 (by omega), s1 8 (by omega)]
    exact g1
  · rw [r6 _ (by omega) (by omega)]
    unfold R_c3 T_cp
    rw [ja_up_j (by omega), ja_up_s, o2 _ (by omega) (by omega)]
    exact t2
  · rw [r6 _ (by omega) (by omega)]
    unfold R_c3 T_cp
    rw [ja_up_s, o2 _ (by omega) (by omega)]
    exact t3
  · rw [r6 _ (by omega) (by omega)]
    unfold R_c3 T_cp
    rw [ja_up_a (by omega), ja_up_a (by omega), ja_cp_o _ (by omega)]
    exact ja_cp_P (P := ja_sm) (fun j => by rw [o2 _ (by omega) (by omega)]; exact t4 j) (fun j => by rw [o2 _ (by omega) (by omega)]; exact u4 j) j
  · rw [r6 _ (by omega) (by omega)]
    unfold R_c3 T_cp
    rw [ja_up_a (by omega), ja_up_a (by omega)]
    exact ja_cp_P (P := ja_sm) (fun j => by rw [ja_cp_o _ (by omega), o2 _ (by omega) (by omega)]; exact t5 j) (fun j => by rw [ja_cp_o _ (by omega), o2 _ (by omega) (by omega)]; exact u5 j) j
  · rw [r9 _ (by omega) (by omega), k1, k2]
    exact p1
  · rw [r9 _ (by omega) (by omega), k4]
    exact p2
  · rw [r9 _ (by omega) (by omega), k6]
    exact p3
  · rw [r9 _ (by omega) (by omega)]
    unfold R_c4 P_cp2
    rw [ja_up_a (by omega), ja_cp_o _ (by omega), ja_up_a (by omega), ja_cp_o _ (by omega), ja_up_a (by omega), ja_up_a (by omega)]
    exact ja_cp_P (P := ja_sp) (fun j => by rw [o3 _ (by omega)]; exact p4 j) (fun j => by rw [o3 _ (by omega)]; exact q4 j) j
  · rw [r9 _ (by omega) (by omega)]
    unfold R_c4 P_cp2
    rw [ja_up_a (by omega), ja_cp_o _ (by omega), ja_up_a (by omega)]
    exact ja_cp_P (P := ja_sp) (fun j => by rw [ja_up_a (by omega), ja_up_a (by omega), ja_cp_o _ (by omega), o3 _ (by omega)]; exact p5 j) (fun j => by rw [ja_up_a (by omega), ja_up_a (by omega), ja_cp_o _ (by omega), o3 _ (by omega)]; exact q5 j) j
  · rw [r9 _ (by omega) (by omega)]
    unfold R_c4 P_cp2
    rw [ja_up_a (by omega), ja_cp_o _ (by omega), ja_up_a (by omega), ja_cp_o _ (by omega), ja_up_a (by omega), ja_up_a (by omega), ja_cp_o _ (by omega), o3 _ (by omega)]
    exact q6 j
  · exact ja_AO_c (fun q a1 a2 => by rw [ha q (by omega), hA6]) (A_all_AO hAb hAo _)
  · intro j hj
    rw [ha _ (by omega), hA6, i4] at hj
    obtain ⟨e1, e2, e3, e4⟩ := ij j (by omega)
    rw [ha _ (by omega), ha _ (by omega), ha _ (by omega), hA6, e1, e2, e3, m5 _ (by omega) (by omega), m5 _ (by omega) (by omega), m5 _ (by omega) (by omega)]
    have e5 : ∀ r k i, ja_hasP (R_cp mem b o) (b + 1) r k i = ja_hasP mem (o + 1) r k i := fun r k i => by simp only [ja_hasP, ja_hasB, ja_cells, s1 3 (by omega), s1 4 (by omega)]
    rw [e5]
    exact g5 j (by omega)
  · rw [r9 _ (by omega) (by omega), k4, rb 6 (by omega)]
    exact g9
  · rw [c14 7 (by omega), r9 _ (by omega) (by omega), k6]
    exact g10
  · rw [c14 8 (by omega), r9 _ (by omega) (by omega), k6]
    exact g11
  · rw [c14 2 (by omega), r9 _ (by omega) (by omega), k6]
    exact g12
end
