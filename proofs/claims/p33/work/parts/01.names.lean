-- ===== PART A: goes FIRST, ahead of the names: the tables' words, and 'selects' of the private methods out of them =====
/-- a private method of a class that the tables say can be made, by its rows of tables_1 -/
def lw_okq (q : MethodName × Nat) : Prop := (q.1.cls ≠ "java/lang/invoke/MethodHandle" ∧ q.1.cls ≠ "java/lang/invoke/VarHandle") ∧ Cond.instantiable q.1.cls q.2 ∈ tables_1 ∧ Cond.privateMethod q.1 ∈ tables_1 ∧ Cond.instanceMethod q.1 ∈ tables_1
theorem lw_p0 : lw_okq (⟨"UprightTurned", "tapeNumber", "(I)V"⟩, 19) := ⟨⟨by decide +kernel, by decide +kernel⟩, List.mem_of_getElem? (i := 21) (by decide +kernel), List.mem_of_getElem? (i := 544) (by decide +kernel), List.mem_of_getElem? (i := 545) (by decide +kernel)⟩
theorem lw_p1 : lw_okq (⟨"UprightTurned$History", "place", "()LUprightTurned$Text;"⟩, 3) := ⟨⟨by decide +kernel, by decide +kernel⟩, List.mem_of_getElem? (i := 133) (by decide +kernel), List.mem_of_getElem? (i := 560) (by decide +kernel), List.mem_of_getElem? (i := 561) (by decide +kernel)⟩
theorem lw_p2 : lw_okq (⟨"UprightTurned", "refresh", "()V"⟩, 19) := ⟨⟨by decide +kernel, by decide +kernel⟩, List.mem_of_getElem? (i := 21) (by decide +kernel), List.mem_of_getElem? (i := 589) (by decide +kernel), List.mem_of_getElem? (i := 590) (by decide +kernel)⟩
theorem lw_p3 : lw_okq (⟨"UprightTurned$Units", "split", "()V"⟩, 19) := ⟨⟨by decide +kernel, by decide +kernel⟩, List.mem_of_getElem? (i := 153) (by decide +kernel), List.mem_of_getElem? (i := 597) (by decide +kernel), List.mem_of_getElem? (i := 598) (by decide +kernel)⟩
theorem lw_p4 : lw_okq (⟨"UprightTurned$Units", "startsUnit", "(I)Z"⟩, 19) := ⟨⟨by decide +kernel, by decide +kernel⟩, List.mem_of_getElem? (i := 153) (by decide +kernel), List.mem_of_getElem? (i := 601) (by decide +kernel), List.mem_of_getElem? (i := 602) (by decide +kernel)⟩
theorem lw_p5 : lw_okq (⟨"UprightTurned$Units", "kindAt", "(I)I"⟩, 19) := ⟨⟨by decide +kernel, by decide +kernel⟩, List.mem_of_getElem? (i := 153) (by decide +kernel), List.mem_of_getElem? (i := 605) (by decide +kernel), List.mem_of_getElem? (i := 606) (by decide +kernel)⟩
theorem lw_p6 : lw_okq (⟨"UprightTurned$Units", "measureUnit", "(I)V"⟩, 19) := ⟨⟨by decide +kernel, by decide +kernel⟩, List.mem_of_getElem? (i := 153) (by decide +kernel), List.mem_of_getElem? (i := 615) (by decide +kernel), List.mem_of_getElem? (i := 616) (by decide +kernel)⟩
theorem lw_p7 : lw_okq (⟨"UprightTurned$Units", "isTurned", "(IZ)Z"⟩, 19) := ⟨⟨by decide +kernel, by decide +kernel⟩, List.mem_of_getElem? (i := 153) (by decide +kernel), List.mem_of_getElem? (i := 623) (by decide +kernel), List.mem_of_getElem? (i := 624) (by decide +kernel)⟩
theorem lw_p8 : lw_okq (⟨"UprightTurned$Text", "readings", "(I)LUprightTurned$LongRow;"⟩, 9) := ⟨⟨by decide +kernel, by decide +kernel⟩, List.mem_of_getElem? (i := 42) (by decide +kernel), List.mem_of_getElem? (i := 634) (by decide +kernel), List.mem_of_getElem? (i := 635) (by decide +kernel)⟩
theorem lw_p9 : lw_okq (⟨"UprightTurned$Units", "addUp", "()V"⟩, 19) := ⟨⟨by decide +kernel, by decide +kernel⟩, List.mem_of_getElem? (i := 153) (by decide +kernel), List.mem_of_getElem? (i := 640) (by decide +kernel), List.mem_of_getElem? (i := 641) (by decide +kernel)⟩
theorem lw_p10 : lw_okq (⟨"UprightTurned$Units", "pairUp", "()V"⟩, 19) := ⟨⟨by decide +kernel, by decide +kernel⟩, List.mem_of_getElem? (i := 153) (by decide +kernel), List.mem_of_getElem? (i := 644) (by decide +kernel), List.mem_of_getElem? (i := 645) (by decide +kernel)⟩
theorem lw_p11 : lw_okq (⟨"UprightTurned$Units", "latestOpen", "(I)I"⟩, 19) := ⟨⟨by decide +kernel, by decide +kernel⟩, List.mem_of_getElem? (i := 153) (by decide +kernel), List.mem_of_getElem? (i := 648) (by decide +kernel), List.mem_of_getElem? (i := 649) (by decide +kernel)⟩
theorem lw_p12 : lw_okq (⟨"UprightTurned$Units", "allowsEnd", "(I)Z"⟩, 19) := ⟨⟨by decide +kernel, by decide +kernel⟩, List.mem_of_getElem? (i := 153) (by decide +kernel), List.mem_of_getElem? (i := 652) (by decide +kernel), List.mem_of_getElem? (i := 653) (by decide +kernel)⟩
theorem lw_p13 : lw_okq (⟨"UprightTurned$Units", "tie", "()V"⟩, 19) := ⟨⟨by decide +kernel, by decide +kernel⟩, List.mem_of_getElem? (i := 153) (by decide +kernel), List.mem_of_getElem? (i := 656) (by decide +kernel), List.mem_of_getElem? (i := 657) (by decide +kernel)⟩
theorem lw_p14 : lw_okq (⟨"UprightTurned$Breaker", "chooseBest", "(I)V"⟩, 7) := ⟨⟨by decide +kernel, by decide +kernel⟩, List.mem_of_getElem? (i := 328) (by decide +kernel), List.mem_of_getElem? (i := 676) (by decide +kernel), List.mem_of_getElem? (i := 677) (by decide +kernel)⟩
theorem lw_p15 : lw_okq (⟨"UprightTurned$Breaker", "closesLine", "(I)Z"⟩, 7) := ⟨⟨by decide +kernel, by decide +kernel⟩, List.mem_of_getElem? (i := 328) (by decide +kernel), List.mem_of_getElem? (i := 687) (by decide +kernel), List.mem_of_getElem? (i := 688) (by decide +kernel)⟩
def lw_privs_1 : List (MethodName × Nat) := [(⟨"UprightTurned", "tapeNumber", "(I)V"⟩, 19), (⟨"UprightTurned$History", "place", "()LUprightTurned$Text;"⟩, 3), (⟨"UprightTurned", "refresh", "()V"⟩, 19), (⟨"UprightTurned$Units", "split", "()V"⟩, 19), (⟨"UprightTurned$Units", "startsUnit", "(I)Z"⟩, 19), (⟨"UprightTurned$Units", "kindAt", "(I)I"⟩, 19), (⟨"UprightTurned$Units", "measureUnit", "(I)V"⟩, 19), (⟨"UprightTurned$Units", "isTurned", "(IZ)Z"⟩, 19), (⟨"UprightTurned$Text", "readings", "(I)LUprightTurned$LongRow;"⟩, 9), (⟨"UprightTurned$Units", "addUp", "()V"⟩, 19), (⟨"UprightTurned$Units", "pairUp", "()V"⟩, 19), (⟨"UprightTurned$Units", "latestOpen", "(I)I"⟩, 19), (⟨"UprightTurned$Units", "allowsEnd", "(I)Z"⟩, 19), (⟨"UprightTurned$Units", "tie", "()V"⟩, 19), (⟨"UprightTurned$Breaker", "chooseBest", "(I)V"⟩, 7), (⟨"UprightTurned$Breaker", "closesLine", "(I)Z"⟩, 7)]
theorem lw_r1 : ∀ q ∈ lw_privs_1, lw_okq q := List.forall_mem_cons.mpr ⟨lw_p0, List.forall_mem_cons.mpr ⟨lw_p1, List.forall_mem_cons.mpr ⟨lw_p2, List.forall_mem_cons.mpr ⟨lw_p3, List.forall_mem_cons.mpr ⟨lw_p4, List.forall_mem_cons.mpr ⟨lw_p5, List.forall_mem_cons.mpr ⟨lw_p6, List.forall_mem_cons.mpr ⟨lw_p7, List.forall_mem_cons.mpr ⟨lw_p8, List.forall_mem_cons.mpr ⟨lw_p9, List.forall_mem_cons.mpr ⟨lw_p10, List.forall_mem_cons.mpr ⟨lw_p11, List.forall_mem_cons.mpr ⟨lw_p12, List.forall_mem_cons.mpr ⟨lw_p13, List.forall_mem_cons.mpr ⟨lw_p14, List.forall_mem_cons.mpr ⟨lw_p15, fun _ h => absurd h List.not_mem_nil⟩⟩⟩⟩⟩⟩⟩⟩⟩⟩⟩⟩⟩⟩⟩⟩
theorem lw_p16 : lw_okq (⟨"UprightTurned$Breaker", "asMany", "(II)I"⟩, 7) := ⟨⟨by decide +kernel, by decide +kernel⟩, List.mem_of_getElem? (i := 328) (by decide +kernel), List.mem_of_getElem? (i := 743) (by decide +kernel), List.mem_of_getElem? (i := 744) (by decide +kernel)⟩
theorem lw_p17 : lw_okq (⟨"UprightTurned$Layout", "measureLine", "(I)V"⟩, 16) := ⟨⟨by decide +kernel, by decide +kernel⟩, List.mem_of_getElem? (i := 364) (by decide +kernel), List.mem_of_getElem? (i := 753) (by decide +kernel), List.mem_of_getElem? (i := 754) (by decide +kernel)⟩
theorem lw_p18 : lw_okq (⟨"UprightTurned$Layout", "hasGapBehind", "(I)Z"⟩, 16) := ⟨⟨by decide +kernel, by decide +kernel⟩, List.mem_of_getElem? (i := 364) (by decide +kernel), List.mem_of_getElem? (i := 764) (by decide +kernel), List.mem_of_getElem? (i := 765) (by decide +kernel)⟩
theorem lw_p19 : lw_okq (⟨"UprightTurned$Layout", "placeUnits", "(I)V"⟩, 16) := ⟨⟨by decide +kernel, by decide +kernel⟩, List.mem_of_getElem? (i := 364) (by decide +kernel), List.mem_of_getElem? (i := 768) (by decide +kernel), List.mem_of_getElem? (i := 769) (by decide +kernel)⟩
theorem lw_p20 : lw_okq (⟨"UprightTurned$Layout", "restToShare", "(I)I"⟩, 16) := ⟨⟨by decide +kernel, by decide +kernel⟩, List.mem_of_getElem? (i := 364) (by decide +kernel), List.mem_of_getElem? (i := 772) (by decide +kernel), List.mem_of_getElem? (i := 773) (by decide +kernel)⟩
theorem lw_p21 : lw_okq (⟨"UprightTurned$Layout", "placeUnit", "(III)V"⟩, 16) := ⟨⟨by decide +kernel, by decide +kernel⟩, List.mem_of_getElem? (i := 364) (by decide +kernel), List.mem_of_getElem? (i := 781) (by decide +kernel), List.mem_of_getElem? (i := 782) (by decide +kernel)⟩
theorem lw_p22 : lw_okq (⟨"UprightTurned$Breaker", "longOfLine", "(I)I"⟩, 7) := ⟨⟨by decide +kernel, by decide +kernel⟩, List.mem_of_getElem? (i := 328) (by decide +kernel), List.mem_of_getElem? (i := 802) (by decide +kernel), List.mem_of_getElem? (i := 803) (by decide +kernel)⟩
theorem lw_p23 : lw_okq (⟨"UprightTurned", "needWithin", "(III)V"⟩, 19) := ⟨⟨by decide +kernel, by decide +kernel⟩, List.mem_of_getElem? (i := 21) (by decide +kernel), List.mem_of_getElem? (i := 826) (by decide +kernel), List.mem_of_getElem? (i := 827) (by decide +kernel)⟩
theorem lw_p24 : lw_okq (⟨"java/lang/Throwable", "fillInStackTrace", "(I)Ljava/lang/Throwable;"⟩, 6) := ⟨⟨by decide +kernel, by decide +kernel⟩, List.mem_of_getElem? (i := 867) (by decide +kernel), List.mem_of_getElem? (i := 865) (by decide +kernel), List.mem_of_getElem? (i := 866) (by decide +kernel)⟩
theorem lw_p25 : lw_okq (⟨"UprightTurned", "readTape", "(I)I"⟩, 19) := ⟨⟨by decide +kernel, by decide +kernel⟩, List.mem_of_getElem? (i := 21) (by decide +kernel), List.mem_of_getElem? (i := 896) (by decide +kernel), List.mem_of_getElem? (i := 897) (by decide +kernel)⟩
theorem lw_p26 : lw_okq (⟨"UprightTurned$Reader", "step", "(I)I"⟩, 8) := ⟨⟨by decide +kernel, by decide +kernel⟩, List.mem_of_getElem? (i := 101) (by decide +kernel), List.mem_of_getElem? (i := 905) (by decide +kernel), List.mem_of_getElem? (i := 906) (by decide +kernel)⟩
theorem lw_p27 : lw_okq (⟨"UprightTurned$Reader", "stepOutside", "(I)I"⟩, 8) := ⟨⟨by decide +kernel, by decide +kernel⟩, List.mem_of_getElem? (i := 101) (by decide +kernel), List.mem_of_getElem? (i := 909) (by decide +kernel), List.mem_of_getElem? (i := 910) (by decide +kernel)⟩
theorem lw_p28 : lw_okq (⟨"UprightTurned$Reader", "addSign", "(IIII)I"⟩, 8) := ⟨⟨by decide +kernel, by decide +kernel⟩, List.mem_of_getElem? (i := 101) (by decide +kernel), List.mem_of_getElem? (i := 919) (by decide +kernel), List.mem_of_getElem? (i := 920) (by decide +kernel)⟩
theorem lw_p29 : lw_okq (⟨"UprightTurned$Reader", "stepBaseDue", "(I)I"⟩, 8) := ⟨⟨by decide +kernel, by decide +kernel⟩, List.mem_of_getElem? (i := 101) (by decide +kernel), List.mem_of_getElem? (i := 935) (by decide +kernel), List.mem_of_getElem? (i := 936) (by decide +kernel)⟩
theorem lw_p30 : lw_okq (⟨"UprightTurned$Reader", "stepInBase", "(I)I"⟩, 8) := ⟨⟨by decide +kernel, by decide +kernel⟩, List.mem_of_getElem? (i := 101) (by decide +kernel), List.mem_of_getElem? (i := 939) (by decide +kernel), List.mem_of_getElem? (i := 940) (by decide +kernel)⟩
theorem lw_p31 : lw_okq (⟨"UprightTurned$Reader", "stepInReading", "(I)I"⟩, 8) := ⟨⟨by decide +kernel, by decide +kernel⟩, List.mem_of_getElem? (i := 101) (by decide +kernel), List.mem_of_getElem? (i := 943) (by decide +kernel), List.mem_of_getElem? (i := 944) (by decide +kernel)⟩
def lw_privs_2 : List (MethodName × Nat) := [(⟨"UprightTurned$Breaker", "asMany", "(II)I"⟩, 7), (⟨"UprightTurned$Layout", "measureLine", "(I)V"⟩, 16), (⟨"UprightTurned$Layout", "hasGapBehind", "(I)Z"⟩, 16), (⟨"UprightTurned$Layout", "placeUnits", "(I)V"⟩, 16), (⟨"UprightTurned$Layout", "restToShare", "(I)I"⟩, 16), (⟨"UprightTurned$Layout", "placeUnit", "(III)V"⟩, 16), (⟨"UprightTurned$Breaker", "longOfLine", "(I)I"⟩, 7), (⟨"UprightTurned", "needWithin", "(III)V"⟩, 19), (⟨"java/lang/Throwable", "fillInStackTrace", "(I)Ljava/lang/Throwable;"⟩, 6), (⟨"UprightTurned", "readTape", "(I)I"⟩, 19), (⟨"UprightTurned$Reader", "step", "(I)I"⟩, 8), (⟨"UprightTurned$Reader", "stepOutside", "(I)I"⟩, 8), (⟨"UprightTurned$Reader", "addSign", "(IIII)I"⟩, 8), (⟨"UprightTurned$Reader", "stepBaseDue", "(I)I"⟩, 8), (⟨"UprightTurned$Reader", "stepInBase", "(I)I"⟩, 8), (⟨"UprightTurned$Reader", "stepInReading", "(I)I"⟩, 8)]
theorem lw_r2 : ∀ q ∈ lw_privs_2, lw_okq q := List.forall_mem_cons.mpr ⟨lw_p16, List.forall_mem_cons.mpr ⟨lw_p17, List.forall_mem_cons.mpr ⟨lw_p18, List.forall_mem_cons.mpr ⟨lw_p19, List.forall_mem_cons.mpr ⟨lw_p20, List.forall_mem_cons.mpr ⟨lw_p21, List.forall_mem_cons.mpr ⟨lw_p22, List.forall_mem_cons.mpr ⟨lw_p23, List.forall_mem_cons.mpr ⟨lw_p24, List.forall_mem_cons.mpr ⟨lw_p25, List.forall_mem_cons.mpr ⟨lw_p26, List.forall_mem_cons.mpr ⟨lw_p27, List.forall_mem_cons.mpr ⟨lw_p28, List.forall_mem_cons.mpr ⟨lw_p29, List.forall_mem_cons.mpr ⟨lw_p30, List.forall_mem_cons.mpr ⟨lw_p31, fun _ h => absurd h List.not_mem_nil⟩⟩⟩⟩⟩⟩⟩⟩⟩⟩⟩⟩⟩⟩⟩⟩
theorem lw_p32 : lw_okq (⟨"UprightTurned", "needExisting", "(II)V"⟩, 19) := ⟨⟨by decide +kernel, by decide +kernel⟩, List.mem_of_getElem? (i := 21) (by decide +kernel), List.mem_of_getElem? (i := 986) (by decide +kernel), List.mem_of_getElem? (i := 987) (by decide +kernel)⟩
theorem lw_p33 : lw_okq (⟨"UprightTurned$Text", "renumber", "()V"⟩, 9) := ⟨⟨by decide +kernel, by decide +kernel⟩, List.mem_of_getElem? (i := 42) (by decide +kernel), List.mem_of_getElem? (i := 1017) (by decide +kernel), List.mem_of_getElem? (i := 1018) (by decide +kernel)⟩
theorem lw_p34 : lw_okq (⟨"UprightTurned", "shortestFor", "(II)I"⟩, 19) := ⟨⟨by decide +kernel, by decide +kernel⟩, List.mem_of_getElem? (i := 21) (by decide +kernel), List.mem_of_getElem? (i := 1147) (by decide +kernel), List.mem_of_getElem? (i := 1148) (by decide +kernel)⟩
theorem lw_p35 : lw_okq (⟨"UprightTurned", "refreshSides", "()V"⟩, 19) := ⟨⟨by decide +kernel, by decide +kernel⟩, List.mem_of_getElem? (i := 21) (by decide +kernel), List.mem_of_getElem? (i := 1224) (by decide +kernel), List.mem_of_getElem? (i := 1225) (by decide +kernel)⟩
theorem lw_p36 : lw_okq (⟨"UprightTurned$Sides", "outerOn", "(II)I"⟩, 10) := ⟨⟨by decide +kernel, by decide +kernel⟩, List.mem_of_getElem? (i := 437) (by decide +kernel), List.mem_of_getElem? (i := 1236) (by decide +kernel), List.mem_of_getElem? (i := 1237) (by decide +kernel)⟩
theorem lw_p37 : lw_okq (⟨"UprightTurned$Sides", "visit", "(IIZ)I"⟩, 10) := ⟨⟨by decide +kernel, by decide +kernel⟩, List.mem_of_getElem? (i := 437) (by decide +kernel), List.mem_of_getElem? (i := 1243) (by decide +kernel), List.mem_of_getElem? (i := 1244) (by decide +kernel)⟩
theorem lw_p38 : lw_okq (⟨"UprightTurned$Sides", "span", "(IIZ)I"⟩, 10) := ⟨⟨by decide +kernel, by decide +kernel⟩, List.mem_of_getElem? (i := 437) (by decide +kernel), List.mem_of_getElem? (i := 1251) (by decide +kernel), List.mem_of_getElem? (i := 1252) (by decide +kernel)⟩
theorem lw_p39 : lw_okq (⟨"UprightTurnedModel", "bad", "(ZII)Z"⟩, 67) := ⟨⟨by decide +kernel, by decide +kernel⟩, List.mem_of_getElem? (i := 1308) (by decide +kernel), List.mem_of_getElem? (i := 1536) (by decide +kernel), List.mem_of_getElem? (i := 1537) (by decide +kernel)⟩
theorem lw_p40 : lw_okq (⟨"UprightTurnedModel", "reads", "(I)I"⟩, 67) := ⟨⟨by decide +kernel, by decide +kernel⟩, List.mem_of_getElem? (i := 1308) (by decide +kernel), List.mem_of_getElem? (i := 1540) (by decide +kernel), List.mem_of_getElem? (i := 1541) (by decide +kernel)⟩
theorem lw_p41 : lw_okq (⟨"UprightTurnedModel", "fine", "()Z"⟩, 67) := ⟨⟨by decide +kernel, by decide +kernel⟩, List.mem_of_getElem? (i := 1308) (by decide +kernel), List.mem_of_getElem? (i := 1544) (by decide +kernel), List.mem_of_getElem? (i := 1545) (by decide +kernel)⟩
theorem lw_p42 : lw_okq (⟨"UprightTurnedModel", "readsPart", "()V"⟩, 67) := ⟨⟨by decide +kernel, by decide +kernel⟩, List.mem_of_getElem? (i := 1308) (by decide +kernel), List.mem_of_getElem? (i := 1548) (by decide +kernel), List.mem_of_getElem? (i := 1549) (by decide +kernel)⟩
theorem lw_p43 : lw_okq (⟨"UprightTurnedModel", "here", "()I"⟩, 67) := ⟨⟨by decide +kernel, by decide +kernel⟩, List.mem_of_getElem? (i := 1308) (by decide +kernel), List.mem_of_getElem? (i := 1552) (by decide +kernel), List.mem_of_getElem? (i := 1553) (by decide +kernel)⟩
theorem lw_p44 : lw_okq (⟨"UprightTurnedModel", "addsSign", "(II)V"⟩, 67) := ⟨⟨by decide +kernel, by decide +kernel⟩, List.mem_of_getElem? (i := 1308) (by decide +kernel), List.mem_of_getElem? (i := 1565) (by decide +kernel), List.mem_of_getElem? (i := 1566) (by decide +kernel)⟩
theorem lw_p45 : lw_okq (⟨"UprightTurnedModel", "wrong", "(II)V"⟩, 67) := ⟨⟨by decide +kernel, by decide +kernel⟩, List.mem_of_getElem? (i := 1308) (by decide +kernel), List.mem_of_getElem? (i := 1569) (by decide +kernel), List.mem_of_getElem? (i := 1570) (by decide +kernel)⟩
theorem lw_p46 : lw_okq (⟨"UprightTurnedModel", "readsGroup", "()V"⟩, 67) := ⟨⟨by decide +kernel, by decide +kernel⟩, List.mem_of_getElem? (i := 1308) (by decide +kernel), List.mem_of_getElem? (i := 1573) (by decide +kernel), List.mem_of_getElem? (i := 1574) (by decide +kernel)⟩
theorem lw_p47 : lw_okq (⟨"UprightTurnedModel", "groupsOf", "(I)I"⟩, 67) := ⟨⟨by decide +kernel, by decide +kernel⟩, List.mem_of_getElem? (i := 1308) (by decide +kernel), List.mem_of_getElem? (i := 1577) (by decide +kernel), List.mem_of_getElem? (i := 1578) (by decide +kernel)⟩
def lw_privs_3 : List (MethodName × Nat) := [(⟨"UprightTurned", "needExisting", "(II)V"⟩, 19), (⟨"UprightTurned$Text", "renumber", "()V"⟩, 9), (⟨"UprightTurned", "shortestFor", "(II)I"⟩, 19), (⟨"UprightTurned", "refreshSides", "()V"⟩, 19), (⟨"UprightTurned$Sides", "outerOn", "(II)I"⟩, 10), (⟨"UprightTurned$Sides", "visit", "(IIZ)I"⟩, 10), (⟨"UprightTurned$Sides", "span", "(IIZ)I"⟩, 10), (⟨"UprightTurnedModel", "bad", "(ZII)Z"⟩, 67), (⟨"UprightTurnedModel", "reads", "(I)I"⟩, 67), (⟨"UprightTurnedModel", "fine", "()Z"⟩, 67), (⟨"UprightTurnedModel", "readsPart", "()V"⟩, 67), (⟨"UprightTurnedModel", "here", "()I"⟩, 67), (⟨"UprightTurnedModel", "addsSign", "(II)V"⟩, 67), (⟨"UprightTurnedModel", "wrong", "(II)V"⟩, 67), (⟨"UprightTurnedModel", "readsGroup", "()V"⟩, 67), (⟨"UprightTurnedModel", "groupsOf", "(I)I"⟩, 67)]
theorem lw_r3 : ∀ q ∈ lw_privs_3, lw_okq q := List.forall_mem_cons.mpr ⟨lw_p32, List.forall_mem_cons.mpr ⟨lw_p33, List.forall_mem_cons.mpr ⟨lw_p34, List.forall_mem_cons.mpr ⟨lw_p35, List.forall_mem_cons.mpr ⟨lw_p36, List.forall_mem_cons.mpr ⟨lw_p37, List.forall_mem_cons.mpr ⟨lw_p38, List.forall_mem_cons.mpr ⟨lw_p39, List.forall_mem_cons.mpr ⟨lw_p40, List.forall_mem_cons.mpr ⟨lw_p41, List.forall_mem_cons.mpr ⟨lw_p42, List.forall_mem_cons.mpr ⟨lw_p43, List.forall_mem_cons.mpr ⟨lw_p44, List.forall_mem_cons.mpr ⟨lw_p45, List.forall_mem_cons.mpr ⟨lw_p46, List.forall_mem_cons.mpr ⟨lw_p47, fun _ h => absurd h List.not_mem_nil⟩⟩⟩⟩⟩⟩⟩⟩⟩⟩⟩⟩⟩⟩⟩⟩
theorem lw_p48 : lw_okq (⟨"UprightTurnedModel", "readsBase", "(I)V"⟩, 67) := ⟨⟨by decide +kernel, by decide +kernel⟩, List.mem_of_getElem? (i := 1308) (by decide +kernel), List.mem_of_getElem? (i := 1581) (by decide +kernel), List.mem_of_getElem? (i := 1582) (by decide +kernel)⟩
theorem lw_p49 : lw_okq (⟨"UprightTurnedModel", "readsReading", "(II)V"⟩, 67) := ⟨⟨by decide +kernel, by decide +kernel⟩, List.mem_of_getElem? (i := 1308) (by decide +kernel), List.mem_of_getElem? (i := 1585) (by decide +kernel), List.mem_of_getElem? (i := 1586) (by decide +kernel)⟩
theorem lw_p50 : lw_okq (⟨"UprightTurnedModel", "stands", "()V"⟩, 67) := ⟨⟨by decide +kernel, by decide +kernel⟩, List.mem_of_getElem? (i := 1308) (by decide +kernel), List.mem_of_getElem? (i := 1589) (by decide +kernel), List.mem_of_getElem? (i := 1590) (by decide +kernel)⟩
theorem lw_p51 : lw_okq (⟨"UprightTurnedModel", "copies", "(II)V"⟩, 67) := ⟨⟨by decide +kernel, by decide +kernel⟩, List.mem_of_getElem? (i := 1308) (by decide +kernel), List.mem_of_getElem? (i := 1593) (by decide +kernel), List.mem_of_getElem? (i := 1594) (by decide +kernel)⟩
theorem lw_p52 : lw_okq (⟨"UprightTurnedModel", "laysUnits", "()V"⟩, 67) := ⟨⟨by decide +kernel, by decide +kernel⟩, List.mem_of_getElem? (i := 1308) (by decide +kernel), List.mem_of_getElem? (i := 1597) (by decide +kernel), List.mem_of_getElem? (i := 1598) (by decide +kernel)⟩
theorem lw_p53 : lw_okq (⟨"UprightTurnedModel", "isOne", "(I)Z"⟩, 67) := ⟨⟨by decide +kernel, by decide +kernel⟩, List.mem_of_getElem? (i := 1308) (by decide +kernel), List.mem_of_getElem? (i := 1601) (by decide +kernel), List.mem_of_getElem? (i := 1602) (by decide +kernel)⟩
theorem lw_p54 : lw_okq (⟨"UprightTurnedModel", "laysAll", "()V"⟩, 67) := ⟨⟨by decide +kernel, by decide +kernel⟩, List.mem_of_getElem? (i := 1308) (by decide +kernel), List.mem_of_getElem? (i := 1631) (by decide +kernel), List.mem_of_getElem? (i := 1632) (by decide +kernel)⟩
theorem lw_p55 : lw_okq (⟨"UprightTurnedModel", "freshens", "()V"⟩, 67) := ⟨⟨by decide +kernel, by decide +kernel⟩, List.mem_of_getElem? (i := 1308) (by decide +kernel), List.mem_of_getElem? (i := 1635) (by decide +kernel), List.mem_of_getElem? (i := 1636) (by decide +kernel)⟩
theorem lw_p56 : lw_okq (⟨"UprightTurnedModel", "laysPairs", "()V"⟩, 67) := ⟨⟨by decide +kernel, by decide +kernel⟩, List.mem_of_getElem? (i := 1308) (by decide +kernel), List.mem_of_getElem? (i := 1639) (by decide +kernel), List.mem_of_getElem? (i := 1640) (by decide +kernel)⟩
theorem lw_p57 : lw_okq (⟨"UprightTurnedModel", "ties", "(II)V"⟩, 67) := ⟨⟨by decide +kernel, by decide +kernel⟩, List.mem_of_getElem? (i := 1308) (by decide +kernel), List.mem_of_getElem? (i := 1643) (by decide +kernel), List.mem_of_getElem? (i := 1644) (by decide +kernel)⟩
theorem lw_p58 : lw_okq (⟨"UprightTurnedModel", "width", "(I)I"⟩, 67) := ⟨⟨by decide +kernel, by decide +kernel⟩, List.mem_of_getElem? (i := 1308) (by decide +kernel), List.mem_of_getElem? (i := 1647) (by decide +kernel), List.mem_of_getElem? (i := 1648) (by decide +kernel)⟩
theorem lw_p59 : lw_okq (⟨"UprightTurnedModel", "isAcross", "(I)Z"⟩, 67) := ⟨⟨by decide +kernel, by decide +kernel⟩, List.mem_of_getElem? (i := 1308) (by decide +kernel), List.mem_of_getElem? (i := 1651) (by decide +kernel), List.mem_of_getElem? (i := 1652) (by decide +kernel)⟩
theorem lw_p60 : lw_okq (⟨"UprightTurnedModel", "signLong", "(I)I"⟩, 67) := ⟨⟨by decide +kernel, by decide +kernel⟩, List.mem_of_getElem? (i := 1308) (by decide +kernel), List.mem_of_getElem? (i := 1655) (by decide +kernel), List.mem_of_getElem? (i := 1656) (by decide +kernel)⟩
theorem lw_p61 : lw_okq (⟨"UprightTurnedModel", "breaks", "(II)I"⟩, 67) := ⟨⟨by decide +kernel, by decide +kernel⟩, List.mem_of_getElem? (i := 1308) (by decide +kernel), List.mem_of_getElem? (i := 1662) (by decide +kernel), List.mem_of_getElem? (i := 1663) (by decide +kernel)⟩
theorem lw_p62 : lw_okq (⟨"UprightTurnedModel", "laysBest", "(I)V"⟩, 67) := ⟨⟨by decide +kernel, by decide +kernel⟩, List.mem_of_getElem? (i := 1308) (by decide +kernel), List.mem_of_getElem? (i := 1666) (by decide +kernel), List.mem_of_getElem? (i := 1667) (by decide +kernel)⟩
theorem lw_p63 : lw_okq (⟨"UprightTurnedModel", "mayEnd", "(I)Z"⟩, 67) := ⟨⟨by decide +kernel, by decide +kernel⟩, List.mem_of_getElem? (i := 1308) (by decide +kernel), List.mem_of_getElem? (i := 1671) (by decide +kernel), List.mem_of_getElem? (i := 1672) (by decide +kernel)⟩
def lw_privs_4 : List (MethodName × Nat) := [(⟨"UprightTurnedModel", "readsBase", "(I)V"⟩, 67), (⟨"UprightTurnedModel", "readsReading", "(II)V"⟩, 67), (⟨"UprightTurnedModel", "stands", "()V"⟩, 67), (⟨"UprightTurnedModel", "copies", "(II)V"⟩, 67), (⟨"UprightTurnedModel", "laysUnits", "()V"⟩, 67), (⟨"UprightTurnedModel", "isOne", "(I)Z"⟩, 67), (⟨"UprightTurnedModel", "laysAll", "()V"⟩, 67), (⟨"UprightTurnedModel", "freshens", "()V"⟩, 67), (⟨"UprightTurnedModel", "laysPairs", "()V"⟩, 67), (⟨"UprightTurnedModel", "ties", "(II)V"⟩, 67), (⟨"UprightTurnedModel", "width", "(I)I"⟩, 67), (⟨"UprightTurnedModel", "isAcross", "(I)Z"⟩, 67), (⟨"UprightTurnedModel", "signLong", "(I)I"⟩, 67), (⟨"UprightTurnedModel", "breaks", "(II)I"⟩, 67), (⟨"UprightTurnedModel", "laysBest", "(I)V"⟩, 67), (⟨"UprightTurnedModel", "mayEnd", "(I)Z"⟩, 67)]
theorem lw_r4 : ∀ q ∈ lw_privs_4, lw_okq q := List.forall_mem_cons.mpr ⟨lw_p48, List.forall_mem_cons.mpr ⟨lw_p49, List.forall_mem_cons.mpr ⟨lw_p50, List.forall_mem_cons.mpr ⟨lw_p51, List.forall_mem_cons.mpr ⟨lw_p52, List.forall_mem_cons.mpr ⟨lw_p53, List.forall_mem_cons.mpr ⟨lw_p54, List.forall_mem_cons.mpr ⟨lw_p55, List.forall_mem_cons.mpr ⟨lw_p56, List.forall_mem_cons.mpr ⟨lw_p57, List.forall_mem_cons.mpr ⟨lw_p58, List.forall_mem_cons.mpr ⟨lw_p59, List.forall_mem_cons.mpr ⟨lw_p60, List.forall_mem_cons.mpr ⟨lw_p61, List.forall_mem_cons.mpr ⟨lw_p62, List.forall_mem_cons.mpr ⟨lw_p63, fun _ h => absurd h List.not_mem_nil⟩⟩⟩⟩⟩⟩⟩⟩⟩⟩⟩⟩⟩⟩⟩⟩
theorem lw_p64 : lw_okq (⟨"UprightTurnedModel", "isPoint", "(I)Z"⟩, 67) := ⟨⟨by decide +kernel, by decide +kernel⟩, List.mem_of_getElem? (i := 1308) (by decide +kernel), List.mem_of_getElem? (i := 1675) (by decide +kernel), List.mem_of_getElem? (i := 1676) (by decide +kernel)⟩
theorem lw_p65 : lw_okq (⟨"UprightTurnedModel", "cost", "(III)J"⟩, 67) := ⟨⟨by decide +kernel, by decide +kernel⟩, List.mem_of_getElem? (i := 1308) (by decide +kernel), List.mem_of_getElem? (i := 1679) (by decide +kernel), List.mem_of_getElem? (i := 1680) (by decide +kernel)⟩
theorem lw_p66 : lw_okq (⟨"UprightTurnedModel", "longAs", "(II)I"⟩, 67) := ⟨⟨by decide +kernel, by decide +kernel⟩, List.mem_of_getElem? (i := 1308) (by decide +kernel), List.mem_of_getElem? (i := 1683) (by decide +kernel), List.mem_of_getElem? (i := 1684) (by decide +kernel)⟩
theorem lw_p67 : lw_okq (⟨"UprightTurnedModel", "lays", "(II)I"⟩, 67) := ⟨⟨by decide +kernel, by decide +kernel⟩, List.mem_of_getElem? (i := 1308) (by decide +kernel), List.mem_of_getElem? (i := 1687) (by decide +kernel), List.mem_of_getElem? (i := 1688) (by decide +kernel)⟩
theorem lw_p68 : lw_okq (⟨"UprightTurnedModel", "laysSpaces", "(II)V"⟩, 67) := ⟨⟨by decide +kernel, by decide +kernel⟩, List.mem_of_getElem? (i := 1308) (by decide +kernel), List.mem_of_getElem? (i := 1691) (by decide +kernel), List.mem_of_getElem? (i := 1692) (by decide +kernel)⟩
theorem lw_p69 : lw_okq (⟨"UprightTurnedModel", "laysBlocks", "(II)V"⟩, 67) := ⟨⟨by decide +kernel, by decide +kernel⟩, List.mem_of_getElem? (i := 1308) (by decide +kernel), List.mem_of_getElem? (i := 1695) (by decide +kernel), List.mem_of_getElem? (i := 1696) (by decide +kernel)⟩
theorem lw_p70 : lw_okq (⟨"UprightTurnedModel", "group", "(I)I"⟩, 67) := ⟨⟨by decide +kernel, by decide +kernel⟩, List.mem_of_getElem? (i := 1308) (by decide +kernel), List.mem_of_getElem? (i := 1699) (by decide +kernel), List.mem_of_getElem? (i := 1700) (by decide +kernel)⟩
theorem lw_p71 : lw_okq (⟨"UprightTurnedModel", "lettersOf", "(II)I"⟩, 67) := ⟨⟨by decide +kernel, by decide +kernel⟩, List.mem_of_getElem? (i := 1308) (by decide +kernel), List.mem_of_getElem? (i := 1703) (by decide +kernel), List.mem_of_getElem? (i := 1704) (by decide +kernel)⟩
theorem lw_p72 : lw_okq (⟨"UprightTurnedModel", "mayAhead", "(III)I"⟩, 67) := ⟨⟨by decide +kernel, by decide +kernel⟩, List.mem_of_getElem? (i := 1308) (by decide +kernel), List.mem_of_getElem? (i := 1707) (by decide +kernel), List.mem_of_getElem? (i := 1708) (by decide +kernel)⟩
theorem lw_p73 : lw_okq (⟨"UprightTurnedModel", "lends", "(IZ)I"⟩, 67) := ⟨⟨by decide +kernel, by decide +kernel⟩, List.mem_of_getElem? (i := 1308) (by decide +kernel), List.mem_of_getElem? (i := 1711) (by decide +kernel), List.mem_of_getElem? (i := 1712) (by decide +kernel)⟩
theorem lw_p74 : lw_okq (⟨"UprightTurnedModel", "mayBehind", "(III)I"⟩, 67) := ⟨⟨by decide +kernel, by decide +kernel⟩, List.mem_of_getElem? (i := 1308) (by decide +kernel), List.mem_of_getElem? (i := 1715) (by decide +kernel), List.mem_of_getElem? (i := 1716) (by decide +kernel)⟩
theorem lw_p75 : lw_okq (⟨"UprightTurnedModel", "comes", "(II)I"⟩, 67) := ⟨⟨by decide +kernel, by decide +kernel⟩, List.mem_of_getElem? (i := 1308) (by decide +kernel), List.mem_of_getElem? (i := 1720) (by decide +kernel), List.mem_of_getElem? (i := 1721) (by decide +kernel)⟩
theorem lw_p76 : lw_okq (⟨"UprightTurnedModel", "laysLine", "(I)V"⟩, 67) := ⟨⟨by decide +kernel, by decide +kernel⟩, List.mem_of_getElem? (i := 1308) (by decide +kernel), List.mem_of_getElem? (i := 1724) (by decide +kernel), List.mem_of_getElem? (i := 1725) (by decide +kernel)⟩
theorem lw_p77 : lw_okq (⟨"UprightTurnedModel", "isGap", "(II)Z"⟩, 67) := ⟨⟨by decide +kernel, by decide +kernel⟩, List.mem_of_getElem? (i := 1308) (by decide +kernel), List.mem_of_getElem? (i := 1728) (by decide +kernel), List.mem_of_getElem? (i := 1729) (by decide +kernel)⟩
theorem lw_p78 : lw_okq (⟨"UprightTurnedModel", "addsBlock", "(II)V"⟩, 67) := ⟨⟨by decide +kernel, by decide +kernel⟩, List.mem_of_getElem? (i := 1308) (by decide +kernel), List.mem_of_getElem? (i := 1732) (by decide +kernel), List.mem_of_getElem? (i := 1733) (by decide +kernel)⟩
theorem lw_p79 : lw_okq (⟨"UprightTurnedModel", "longest", "()I"⟩, 67) := ⟨⟨by decide +kernel, by decide +kernel⟩, List.mem_of_getElem? (i := 1308) (by decide +kernel), List.mem_of_getElem? (i := 1736) (by decide +kernel), List.mem_of_getElem? (i := 1737) (by decide +kernel)⟩
def lw_privs_5 : List (MethodName × Nat) := [(⟨"UprightTurnedModel", "isPoint", "(I)Z"⟩, 67), (⟨"UprightTurnedModel", "cost", "(III)J"⟩, 67), (⟨"UprightTurnedModel", "longAs", "(II)I"⟩, 67), (⟨"UprightTurnedModel", "lays", "(II)I"⟩, 67), (⟨"UprightTurnedModel", "laysSpaces", "(II)V"⟩, 67), (⟨"UprightTurnedModel", "laysBlocks", "(II)V"⟩, 67), (⟨"UprightTurnedModel", "group", "(I)I"⟩, 67), (⟨"UprightTurnedModel", "lettersOf", "(II)I"⟩, 67), (⟨"UprightTurnedModel", "mayAhead", "(III)I"⟩, 67), (⟨"UprightTurnedModel", "lends", "(IZ)I"⟩, 67), (⟨"UprightTurnedModel", "mayBehind", "(III)I"⟩, 67), (⟨"UprightTurnedModel", "comes", "(II)I"⟩, 67), (⟨"UprightTurnedModel", "laysLine", "(I)V"⟩, 67), (⟨"UprightTurnedModel", "isGap", "(II)Z"⟩, 67), (⟨"UprightTurnedModel", "addsBlock", "(II)V"⟩, 67), (⟨"UprightTurnedModel", "longest", "()I"⟩, 67)]
theorem lw_r5 : ∀ q ∈ lw_privs_5, lw_okq q := List.forall_mem_cons.mpr ⟨lw_p64, List.forall_mem_cons.mpr ⟨lw_p65, List.forall_mem_cons.mpr ⟨lw_p66, List.forall_mem_cons.mpr ⟨lw_p67, List.forall_mem_cons.mpr ⟨lw_p68, List.forall_mem_cons.mpr ⟨lw_p69, List.forall_mem_cons.mpr ⟨lw_p70, List.forall_mem_cons.mpr ⟨lw_p71, List.forall_mem_cons.mpr ⟨lw_p72, List.forall_mem_cons.mpr ⟨lw_p73, List.forall_mem_cons.mpr ⟨lw_p74, List.forall_mem_cons.mpr ⟨lw_p75, List.forall_mem_cons.mpr ⟨lw_p76, List.forall_mem_cons.mpr ⟨lw_p77, List.forall_mem_cons.mpr ⟨lw_p78, List.forall_mem_cons.mpr ⟨lw_p79, fun _ h => absurd h List.not_mem_nil⟩⟩⟩⟩⟩⟩⟩⟩⟩⟩⟩⟩⟩⟩⟩⟩
theorem lw_p80 : lw_okq (⟨"UprightTurnedModel", "costs", "()J"⟩, 67) := ⟨⟨by decide +kernel, by decide +kernel⟩, List.mem_of_getElem? (i := 1308) (by decide +kernel), List.mem_of_getElem? (i := 1740) (by decide +kernel), List.mem_of_getElem? (i := 1741) (by decide +kernel)⟩
theorem lw_p81 : lw_okq (⟨"UprightTurnedModel", "unfit", "()I"⟩, 67) := ⟨⟨by decide +kernel, by decide +kernel⟩, List.mem_of_getElem? (i := 1308) (by decide +kernel), List.mem_of_getElem? (i := 1744) (by decide +kernel), List.mem_of_getElem? (i := 1745) (by decide +kernel)⟩
theorem lw_p82 : lw_okq (⟨"UprightTurnedModel", "isUnit", "(I)Z"⟩, 67) := ⟨⟨by decide +kernel, by decide +kernel⟩, List.mem_of_getElem? (i := 1308) (by decide +kernel), List.mem_of_getElem? (i := 1752) (by decide +kernel), List.mem_of_getElem? (i := 1753) (by decide +kernel)⟩
theorem lw_p83 : lw_okq (⟨"UprightTurnedModel", "isTurned", "(I)Z"⟩, 67) := ⟨⟨by decide +kernel, by decide +kernel⟩, List.mem_of_getElem? (i := 1308) (by decide +kernel), List.mem_of_getElem? (i := 1760) (by decide +kernel), List.mem_of_getElem? (i := 1761) (by decide +kernel)⟩
theorem lw_p84 : lw_okq (⟨"UprightTurnedModel", "marksOf", "(I)I"⟩, 67) := ⟨⟨by decide +kernel, by decide +kernel⟩, List.mem_of_getElem? (i := 1308) (by decide +kernel), List.mem_of_getElem? (i := 1764) (by decide +kernel), List.mem_of_getElem? (i := 1765) (by decide +kernel)⟩
theorem lw_p85 : lw_okq (⟨"UprightTurnedModel", "lettersIn", "(II)I"⟩, 67) := ⟨⟨by decide +kernel, by decide +kernel⟩, List.mem_of_getElem? (i := 1308) (by decide +kernel), List.mem_of_getElem? (i := 1784) (by decide +kernel), List.mem_of_getElem? (i := 1785) (by decide +kernel)⟩
theorem lw_p86 : lw_okq (⟨"UprightTurnedModel", "letterAt", "(III)I"⟩, 67) := ⟨⟨by decide +kernel, by decide +kernel⟩, List.mem_of_getElem? (i := 1308) (by decide +kernel), List.mem_of_getElem? (i := 1788) (by decide +kernel), List.mem_of_getElem? (i := 1789) (by decide +kernel)⟩
theorem lw_p87 : lw_okq (⟨"UprightTurnedModel", "letterPlace", "(III)I"⟩, 67) := ⟨⟨by decide +kernel, by decide +kernel⟩, List.mem_of_getElem? (i := 1308) (by decide +kernel), List.mem_of_getElem? (i := 1792) (by decide +kernel), List.mem_of_getElem? (i := 1793) (by decide +kernel)⟩
theorem lw_p88 : lw_okq (⟨"UprightTurnedModel", "isLine", "(I)Z"⟩, 67) := ⟨⟨by decide +kernel, by decide +kernel⟩, List.mem_of_getElem? (i := 1308) (by decide +kernel), List.mem_of_getElem? (i := 1812) (by decide +kernel), List.mem_of_getElem? (i := 1813) (by decide +kernel)⟩
theorem lw_p89 : lw_okq (⟨"UprightTurnedModel", "laysLetters", "(II)I"⟩, 67) := ⟨⟨by decide +kernel, by decide +kernel⟩, List.mem_of_getElem? (i := 1308) (by decide +kernel), List.mem_of_getElem? (i := 1816) (by decide +kernel), List.mem_of_getElem? (i := 1817) (by decide +kernel)⟩
theorem lw_p90 : lw_okq (⟨"UprightTurnedModel", "addsThing", "(II)V"⟩, 67) := ⟨⟨by decide +kernel, by decide +kernel⟩, List.mem_of_getElem? (i := 1308) (by decide +kernel), List.mem_of_getElem? (i := 1820) (by decide +kernel), List.mem_of_getElem? (i := 1821) (by decide +kernel)⟩
theorem lw_p91 : lw_okq (⟨"UprightTurnedModel", "laysSide", "(II)I"⟩, 67) := ⟨⟨by decide +kernel, by decide +kernel⟩, List.mem_of_getElem? (i := 1308) (by decide +kernel), List.mem_of_getElem? (i := 1824) (by decide +kernel), List.mem_of_getElem? (i := 1825) (by decide +kernel)⟩
theorem lw_p92 : lw_okq (⟨"UprightTurnedModel", "gutterOf", "(I)I"⟩, 67) := ⟨⟨by decide +kernel, by decide +kernel⟩, List.mem_of_getElem? (i := 1308) (by decide +kernel), List.mem_of_getElem? (i := 1832) (by decide +kernel), List.mem_of_getElem? (i := 1833) (by decide +kernel)⟩
theorem lw_p93 : lw_okq (⟨"UprightTurnedModel", "clashOf", "(I)I"⟩, 67) := ⟨⟨by decide +kernel, by decide +kernel⟩, List.mem_of_getElem? (i := 1308) (by decide +kernel), List.mem_of_getElem? (i := 1836) (by decide +kernel), List.mem_of_getElem? (i := 1837) (by decide +kernel)⟩
theorem lw_p94 : lw_okq (⟨"UprightTurnedModel", "sideOf", "(II)I"⟩, 67) := ⟨⟨by decide +kernel, by decide +kernel⟩, List.mem_of_getElem? (i := 1308) (by decide +kernel), List.mem_of_getElem? (i := 1840) (by decide +kernel), List.mem_of_getElem? (i := 1841) (by decide +kernel)⟩
theorem lw_p95 : lw_okq (⟨"UprightTurnedModel", "thickOf", "(II)I"⟩, 67) := ⟨⟨by decide +kernel, by decide +kernel⟩, List.mem_of_getElem? (i := 1308) (by decide +kernel), List.mem_of_getElem? (i := 1852) (by decide +kernel), List.mem_of_getElem? (i := 1853) (by decide +kernel)⟩
def lw_privs_6 : List (MethodName × Nat) := [(⟨"UprightTurnedModel", "costs", "()J"⟩, 67), (⟨"UprightTurnedModel", "unfit", "()I"⟩, 67), (⟨"UprightTurnedModel", "isUnit", "(I)Z"⟩, 67), (⟨"UprightTurnedModel", "isTurned", "(I)Z"⟩, 67), (⟨"UprightTurnedModel", "marksOf", "(I)I"⟩, 67), (⟨"UprightTurnedModel", "lettersIn", "(II)I"⟩, 67), (⟨"UprightTurnedModel", "letterAt", "(III)I"⟩, 67), (⟨"UprightTurnedModel", "letterPlace", "(III)I"⟩, 67), (⟨"UprightTurnedModel", "isLine", "(I)Z"⟩, 67), (⟨"UprightTurnedModel", "laysLetters", "(II)I"⟩, 67), (⟨"UprightTurnedModel", "addsThing", "(II)V"⟩, 67), (⟨"UprightTurnedModel", "laysSide", "(II)I"⟩, 67), (⟨"UprightTurnedModel", "gutterOf", "(I)I"⟩, 67), (⟨"UprightTurnedModel", "clashOf", "(I)I"⟩, 67), (⟨"UprightTurnedModel", "sideOf", "(II)I"⟩, 67), (⟨"UprightTurnedModel", "thickOf", "(II)I"⟩, 67)]
theorem lw_r6 : ∀ q ∈ lw_privs_6, lw_okq q := List.forall_mem_cons.mpr ⟨lw_p80, List.forall_mem_cons.mpr ⟨lw_p81, List.forall_mem_cons.mpr ⟨lw_p82, List.forall_mem_cons.mpr ⟨lw_p83, List.forall_mem_cons.mpr ⟨lw_p84, List.forall_mem_cons.mpr ⟨lw_p85, List.forall_mem_cons.mpr ⟨lw_p86, List.forall_mem_cons.mpr ⟨lw_p87, List.forall_mem_cons.mpr ⟨lw_p88, List.forall_mem_cons.mpr ⟨lw_p89, List.forall_mem_cons.mpr ⟨lw_p90, List.forall_mem_cons.mpr ⟨lw_p91, List.forall_mem_cons.mpr ⟨lw_p92, List.forall_mem_cons.mpr ⟨lw_p93, List.forall_mem_cons.mpr ⟨lw_p94, List.forall_mem_cons.mpr ⟨lw_p95, fun _ h => absurd h List.not_mem_nil⟩⟩⟩⟩⟩⟩⟩⟩⟩⟩⟩⟩⟩⟩⟩⟩
theorem lw_p96 : lw_okq (⟨"UprightTurnedModel", "laysGutters", "()V"⟩, 67) := ⟨⟨by decide +kernel, by decide +kernel⟩, List.mem_of_getElem? (i := 1308) (by decide +kernel), List.mem_of_getElem? (i := 1860) (by decide +kernel), List.mem_of_getElem? (i := 1861) (by decide +kernel)⟩
theorem lw_p97 : lw_okq (⟨"UprightTurnedModel", "pagesBy", "(I)I"⟩, 67) := ⟨⟨by decide +kernel, by decide +kernel⟩, List.mem_of_getElem? (i := 1308) (by decide +kernel), List.mem_of_getElem? (i := 1864) (by decide +kernel), List.mem_of_getElem? (i := 1865) (by decide +kernel)⟩
theorem lw_p98 : lw_okq (⟨"UprightTurnedModel", "costsBy", "(I)J"⟩, 67) := ⟨⟨by decide +kernel, by decide +kernel⟩, List.mem_of_getElem? (i := 1308) (by decide +kernel), List.mem_of_getElem? (i := 1896) (by decide +kernel), List.mem_of_getElem? (i := 1897) (by decide +kernel)⟩
theorem lw_p99 : lw_okq (⟨"UprightTurnedModel", "turnsOver", "()V"⟩, 67) := ⟨⟨by decide +kernel, by decide +kernel⟩, List.mem_of_getElem? (i := 1308) (by decide +kernel), List.mem_of_getElem? (i := 1904) (by decide +kernel), List.mem_of_getElem? (i := 1905) (by decide +kernel)⟩
theorem lw_p100 : lw_okq (⟨"UprightTurnedModel", "nextBlock", "(II)I"⟩, 67) := ⟨⟨by decide +kernel, by decide +kernel⟩, List.mem_of_getElem? (i := 1308) (by decide +kernel), List.mem_of_getElem? (i := 1916) (by decide +kernel), List.mem_of_getElem? (i := 1917) (by decide +kernel)⟩
theorem lw_p101 : lw_okq (⟨"UprightTurnedModel", "lineOfBlock", "(I)I"⟩, 67) := ⟨⟨by decide +kernel, by decide +kernel⟩, List.mem_of_getElem? (i := 1308) (by decide +kernel), List.mem_of_getElem? (i := 1920) (by decide +kernel), List.mem_of_getElem? (i := 1921) (by decide +kernel)⟩
def lw_privs_7 : List (MethodName × Nat) := [(⟨"UprightTurnedModel", "laysGutters", "()V"⟩, 67), (⟨"UprightTurnedModel", "pagesBy", "(I)I"⟩, 67), (⟨"UprightTurnedModel", "costsBy", "(I)J"⟩, 67), (⟨"UprightTurnedModel", "turnsOver", "()V"⟩, 67), (⟨"UprightTurnedModel", "nextBlock", "(II)I"⟩, 67), (⟨"UprightTurnedModel", "lineOfBlock", "(I)I"⟩, 67)]
theorem lw_r7 : ∀ q ∈ lw_privs_7, lw_okq q := List.forall_mem_cons.mpr ⟨lw_p96, List.forall_mem_cons.mpr ⟨lw_p97, List.forall_mem_cons.mpr ⟨lw_p98, List.forall_mem_cons.mpr ⟨lw_p99, List.forall_mem_cons.mpr ⟨lw_p100, List.forall_mem_cons.mpr ⟨lw_p101, fun _ h => absurd h List.not_mem_nil⟩⟩⟩⟩⟩⟩
def lw_privs : List (MethodName × Nat) := lw_privs_1 ++ (lw_privs_2 ++ (lw_privs_3 ++ (lw_privs_4 ++ (lw_privs_5 ++ (lw_privs_6 ++ (lw_privs_7))))))
def lw_tbl : List Cond := k2_sels lw_privs ++ tables_1
theorem lw_privs_ok : ∀ q ∈ lw_privs, lw_okq q := by
  show ∀ q ∈ lw_privs_1 ++ (lw_privs_2 ++ (lw_privs_3 ++ (lw_privs_4 ++ (lw_privs_5 ++ (lw_privs_6 ++ (lw_privs_7)))))), lw_okq q
  exact List.forall_mem_append.mpr ⟨lw_r1, List.forall_mem_append.mpr ⟨lw_r2, List.forall_mem_append.mpr ⟨lw_r3, List.forall_mem_append.mpr ⟨lw_r4, List.forall_mem_append.mpr ⟨lw_r5, List.forall_mem_append.mpr ⟨lw_r6, lw_r7⟩⟩⟩⟩⟩⟩
def RX0 : String := "UprightTurned$Blocks"
def TX0 : u_T := fun k => match k with
  | 0 => ("UprightTurned$Blocks", "units", "LUprightTurned$Units;", true)
  | 1 => ("UprightTurned$Blocks", "first", "LUprightTurned$Row;", true)
  | 2 => ("UprightTurned$Blocks", "last", "LUprightTurned$Row;", true)
  | 3 => ("UprightTurned$Blocks", "wide", "LUprightTurned$Row;", true)
  | 4 => ("UprightTurned$Blocks", "over", "LUprightTurned$Row;", true)
  | 5 => ("UprightTurned$Blocks", "ahead", "LUprightTurned$Row;", true)
  | 6 => ("UprightTurned$Blocks", "behind", "LUprightTurned$Row;", true)
  | 7 => ("UprightTurned$Blocks", "right", "LUprightTurned$Row;", true)
  | 8 => ("UprightTurned$Blocks", "left", "LUprightTurned$Row;", true)
  | _ => ("UprightTurned$Blocks", "count", "I", false)
def tyX0 : Nat → FieldType := fun k => match k with
  | 0 => .object "UprightTurned$Units"
  | 1 => .object "UprightTurned$Row"
  | 2 => .object "UprightTurned$Row"
  | 3 => .object "UprightTurned$Row"
  | 4 => .object "UprightTurned$Row"
  | 5 => .object "UprightTurned$Row"
  | 6 => .object "UprightTurned$Row"
  | 7 => .object "UprightTurned$Row"
  | 8 => .object "UprightTurned$Row"
  | _ => .int
theorem nmX0 : ∀ a, a < 10 → ∀ b, b < 10 → a ≠ b → (TX0 a).2.1 ≠ (TX0 b).2.1 := by decide +kernel
theorem tyX0_ok : ∀ k, k < 10 → parseFieldDescriptor (TX0 k).2.2.1 = some (tyX0 k) := by decide +kernel
abbrev cX0_init : ByteArray := prog_2_method_1_code
def yX0_init : MethodName := ⟨RX0, "<init>", "(LUprightTurned$Units;)V"⟩
abbrev cX0_clear : ByteArray := prog_2_method_2_code
def yX0_clear : MethodName := ⟨RX0, "clear", "()V"⟩
abbrev cX0_letters : ByteArray := prog_2_method_3_code
def yX0_letters : MethodName := ⟨RX0, "letters", "(II)I"⟩
abbrev cX0_padAhead : ByteArray := prog_2_method_4_code
def yX0_padAhead : MethodName := ⟨RX0, "padAhead", "(I)I"⟩
abbrev cX0_padBehind : ByteArray := prog_2_method_5_code
def yX0_padBehind : MethodName := ⟨RX0, "padBehind", "(I)I"⟩
abbrev cX0_gather : ByteArray := prog_2_method_6_code
def yX0_gather : MethodName := ⟨RX0, "gather", "(II)V"⟩
abbrev cX0_hang : ByteArray := prog_2_method_7_code
def yX0_hang : MethodName := ⟨RX0, "hang", "(IIII)I"⟩
abbrev cX0_room : ByteArray := prog_2_method_8_code
def yX0_room : MethodName := ⟨RX0, "room", "(IIZ)I"⟩
def RX1 : String := "UprightTurned$Breaker"
def TX1 : u_T := fun k => match k with
  | 0 => ("UprightTurned$Breaker", "units", "LUprightTurned$Units;", true)
  | 1 => ("UprightTurned$Breaker", "measure", "LUprightTurned$Measure;", true)
  | 2 => ("UprightTurned$Breaker", "chosen", "LUprightTurned$Row;", true)
  | 3 => ("UprightTurned$Breaker", "costsFrom", "LUprightTurned$LongRow;", true)
  | 4 => ("UprightTurned$Breaker", "fewestFrom", "LUprightTurned$Row;", true)
  | 5 => ("UprightTurned$Breaker", "starts", "LUprightTurned$Row;", true)
  | _ => ("UprightTurned$Breaker", "count", "I", false)
def tyX1 : Nat → FieldType := fun k => match k with
  | 0 => .object "UprightTurned$Units"
  | 1 => .object "UprightTurned$Measure"
  | 2 => .object "UprightTurned$Row"
  | 3 => .object "UprightTurned$LongRow"
  | 4 => .object "UprightTurned$Row"
  | 5 => .object "UprightTurned$Row"
  | _ => .int
theorem nmX1 : ∀ a, a < 7 → ∀ b, b < 7 → a ≠ b → (TX1 a).2.1 ≠ (TX1 b).2.1 := by decide +kernel
theorem tyX1_ok : ∀ k, k < 7 → parseFieldDescriptor (TX1 k).2.2.1 = some (tyX1 k) := by decide +kernel
abbrev cX1_init : ByteArray := prog_3_method_1_code
def yX1_init : MethodName := ⟨RX1, "<init>", "(LUprightTurned$Units;LUprightTurned$Measure;)V"⟩
abbrev cX1_go : ByteArray := prog_3_method_2_code
def yX1_go : MethodName := ⟨RX1, "go", "(II)V"⟩
abbrev cX1_asMany : ByteArray := prog_3_method_3_code
def yX1_asMany : MethodName := ⟨RX1, "asMany", "(II)I"⟩
abbrev cX1_closesLine : ByteArray := prog_3_method_4_code
def yX1_closesLine : MethodName := ⟨RX1, "closesLine", "(I)Z"⟩
abbrev cX1_chooseBest : ByteArray := prog_3_method_5_code
def yX1_chooseBest : MethodName := ⟨RX1, "chooseBest", "(I)V"⟩
abbrev cX1_fewest : ByteArray := prog_3_method_6_code
def yX1_fewest : MethodName := ⟨RX1, "fewest", "(II)I"⟩
abbrev cX1_costFor : ByteArray := prog_3_method_7_code
def yX1_costFor : MethodName := ⟨RX1, "costFor", "(IIZ)J"⟩
abbrev cX1_longOfLine : ByteArray := prog_3_method_8_code
def yX1_longOfLine : MethodName := ⟨RX1, "longOfLine", "(I)I"⟩
abbrev cX1_costs : ByteArray := prog_3_method_9_code
def yX1_costs : MethodName := ⟨RX1, "costs", "(I)J"⟩
abbrev cX1_tooLong : ByteArray := prog_3_method_10_code
def yX1_tooLong : MethodName := ⟨RX1, "tooLong", "(I)I"⟩
abbrev cX1_movedFrom : ByteArray := prog_3_method_11_code
def yX1_movedFrom : MethodName := ⟨RX1, "movedFrom", "(LUprightTurned$Row;)I"⟩
def RX2 : String := "UprightTurned$History"
def TX2 : u_T := fun k => match k with
  | 0 => ("UprightTurned$History", "kept", "[LUprightTurned$Text;", true)
  | 1 => ("UprightTurned$History", "next", "I", false)
  | _ => ("UprightTurned$History", "count", "I", false)
def tyX2 : Nat → FieldType := fun k => match k with
  | 0 => .array (.object "UprightTurned$Text")
  | 1 => .int
  | _ => .int
theorem nmX2 : ∀ a, a < 3 → ∀ b, b < 3 → a ≠ b → (TX2 a).2.1 ≠ (TX2 b).2.1 := by decide +kernel
theorem tyX2_ok : ∀ k, k < 3 → parseFieldDescriptor (TX2 k).2.2.1 = some (tyX2 k) := by decide +kernel
abbrev cX2_init : ByteArray := prog_4_method_1_code
def yX2_init : MethodName := ⟨RX2, "<init>", "()V"⟩
abbrev cX2_place : ByteArray := prog_4_method_2_code
def yX2_place : MethodName := ⟨RX2, "place", "()LUprightTurned$Text;"⟩
abbrev cX2_keep : ByteArray := prog_4_method_3_code
def yX2_keep : MethodName := ⟨RX2, "keep", "(LUprightTurned$Text;)V"⟩
abbrev cX2_takeBack : ByteArray := prog_4_method_4_code
def yX2_takeBack : MethodName := ⟨RX2, "takeBack", "(LUprightTurned$Text;)Z"⟩
def RX3 : String := "UprightTurned$Layout"
def TX3 : u_T := fun k => match k with
  | 0 => ("UprightTurned$Layout", "text", "LUprightTurned$Text;", true)
  | 1 => ("UprightTurned$Layout", "units", "LUprightTurned$Units;", true)
  | 2 => ("UprightTurned$Layout", "measure", "LUprightTurned$Measure;", true)
  | 3 => ("UprightTurned$Layout", "breaker", "LUprightTurned$Breaker;", true)
  | 4 => ("UprightTurned$Layout", "settings", "LUprightTurned$Row;", true)
  | 5 => ("UprightTurned$Layout", "blocks", "LUprightTurned$Blocks;", true)
  | 6 => ("UprightTurned$Layout", "unitLine", "LUprightTurned$Row;", true)
  | 7 => ("UprightTurned$Layout", "unitPlace", "LUprightTurned$Row;", true)
  | 8 => ("UprightTurned$Layout", "unitWidth", "LUprightTurned$Row;", true)
  | 9 => ("UprightTurned$Layout", "unitSpace", "LUprightTurned$Row;", true)
  | 10 => ("UprightTurned$Layout", "signPlace", "LUprightTurned$Row;", true)
  | 11 => ("UprightTurned$Layout", "lineLong", "LUprightTurned$Row;", true)
  | 12 => ("UprightTurned$Layout", "lineGaps", "LUprightTurned$Row;", true)
  | 13 => ("UprightTurned$Layout", "linePads", "LUprightTurned$Row;", true)
  | 14 => ("UprightTurned$Layout", "lineHangs", "LUprightTurned$Row;", true)
  | _ => ("UprightTurned$Layout", "lineBlock", "LUprightTurned$Row;", true)
def tyX3 : Nat → FieldType := fun k => match k with
  | 0 => .object "UprightTurned$Text"
  | 1 => .object "UprightTurned$Units"
  | 2 => .object "UprightTurned$Measure"
  | 3 => .object "UprightTurned$Breaker"
  | 4 => .object "UprightTurned$Row"
  | 5 => .object "UprightTurned$Blocks"
  | 6 => .object "UprightTurned$Row"
  | 7 => .object "UprightTurned$Row"
  | 8 => .object "UprightTurned$Row"
  | 9 => .object "UprightTurned$Row"
  | 10 => .object "UprightTurned$Row"
  | 11 => .object "UprightTurned$Row"
  | 12 => .object "UprightTurned$Row"
  | 13 => .object "UprightTurned$Row"
  | 14 => .object "UprightTurned$Row"
  | _ => .object "UprightTurned$Row"
theorem nmX3 : ∀ a, a < 16 → ∀ b, b < 16 → a ≠ b → (TX3 a).2.1 ≠ (TX3 b).2.1 := by decide +kernel
theorem tyX3_ok : ∀ k, k < 16 → parseFieldDescriptor (TX3 k).2.2.1 = some (tyX3 k) := by decide +kernel
abbrev cX3_init : ByteArray := prog_5_method_1_code
def yX3_init : MethodName := ⟨RX3, "<init>", "(LUprightTurned$Text;LUprightTurned$Units;LUprightTurned$Measure;LUprightTurned$Breaker;LUprightTurned$Row;)V"⟩
abbrev cX3_build : ByteArray := prog_5_method_2_code
def yX3_build : MethodName := ⟨RX3, "build", "()V"⟩
abbrev cX3_measureLine : ByteArray := prog_5_method_3_code
def yX3_measureLine : MethodName := ⟨RX3, "measureLine", "(I)V"⟩
abbrev cX3_hasGapBehind : ByteArray := prog_5_method_4_code
def yX3_hasGapBehind : MethodName := ⟨RX3, "hasGapBehind", "(I)Z"⟩
abbrev cX3_restToShare : ByteArray := prog_5_method_5_code
def yX3_restToShare : MethodName := ⟨RX3, "restToShare", "(I)I"⟩
abbrev cX3_placeUnits : ByteArray := prog_5_method_6_code
def yX3_placeUnits : MethodName := ⟨RX3, "placeUnits", "(I)V"⟩
abbrev cX3_placeUnit : ByteArray := prog_5_method_7_code
def yX3_placeUnit : MethodName := ⟨RX3, "placeUnit", "(III)V"⟩
abbrev cX3_longest : ByteArray := prog_5_method_8_code
def yX3_longest : MethodName := ⟨RX3, "longest", "()I"⟩
abbrev cX3_standingAt : ByteArray := prog_5_method_9_code
def yX3_standingAt : MethodName := ⟨RX3, "standingAt", "(II)I"⟩
abbrev cX3_letterCode : ByteArray := prog_5_method_10_code
def yX3_letterCode : MethodName := ⟨RX3, "letterCode", "(III)I"⟩
abbrev cX3_letterPlace : ByteArray := prog_5_method_11_code
def yX3_letterPlace : MethodName := ⟨RX3, "letterPlace", "(III)I"⟩
abbrev cX3_nearestOn : ByteArray := prog_5_method_12_code
def yX3_nearestOn : MethodName := ⟨RX3, "nearestOn", "(II)I"⟩
abbrev cX3_lettersBeside : ByteArray := prog_5_method_13_code
def yX3_lettersBeside : MethodName := ⟨RX3, "lettersBeside", "(II)I"⟩
abbrev cX3_firstSign : ByteArray := prog_5_method_14_code
def yX3_firstSign : MethodName := ⟨RX3, "firstSign", "(I)I"⟩
abbrev cX3_marksBeside : ByteArray := prog_5_method_15_code
def yX3_marksBeside : MethodName := ⟨RX3, "marksBeside", "(II)I"⟩
abbrev cX3_lineCount : ByteArray := prog_5_method_16_code
def yX3_lineCount : MethodName := ⟨RX3, "lineCount", "()I"⟩
def RX4 : String := "UprightTurned$LongRow"
def TX4 : u_T := fun k => match k with
  | _ => ("UprightTurned$LongRow", "cells", "[J", true)
def tyX4 : Nat → FieldType := fun k => match k with
  | _ => .array .long
theorem nmX4 : ∀ a, a < 1 → ∀ b, b < 1 → a ≠ b → (TX4 a).2.1 ≠ (TX4 b).2.1 := by decide +kernel
theorem tyX4_ok : ∀ k, k < 1 → parseFieldDescriptor (TX4 k).2.2.1 = some (tyX4 k) := by decide +kernel
abbrev cX4_init : ByteArray := prog_6_method_1_code
def yX4_init : MethodName := ⟨RX4, "<init>", "(I)V"⟩
abbrev cX4_get : ByteArray := prog_6_method_2_code
def yX4_get : MethodName := ⟨RX4, "get", "(I)J"⟩
abbrev cX4_put : ByteArray := prog_6_method_3_code
def yX4_put : MethodName := ⟨RX4, "put", "(IJ)V"⟩
abbrev cX4_copyFrom : ByteArray := prog_6_method_4_code
def yX4_copyFrom : MethodName := ⟨RX4, "copyFrom", "(LUprightTurned$LongRow;I)V"⟩
abbrev cX4_close : ByteArray := prog_6_method_5_code
def yX4_close : MethodName := ⟨RX4, "close", "(III)V"⟩
def RX5 : String := "UprightTurned$Measure"
def TX5 : u_T := fun k => match k with
  | 0 => ("UprightTurned$Measure", "units", "LUprightTurned$Units;", true)
  | 1 => ("UprightTurned$Measure", "settings", "LUprightTurned$Row;", true)
  | 2 => ("UprightTurned$Measure", "scratch", "LUprightTurned$Blocks;", true)
  | 3 => ("UprightTurned$Measure", "known", "LUprightTurned$Row;", true)
  | 4 => ("UprightTurned$Measure", "from", "I", false)
  | _ => ("UprightTurned$Measure", "to", "I", false)
def tyX5 : Nat → FieldType := fun k => match k with
  | 0 => .object "UprightTurned$Units"
  | 1 => .object "UprightTurned$Row"
  | 2 => .object "UprightTurned$Blocks"
  | 3 => .object "UprightTurned$Row"
  | 4 => .int
  | _ => .int
theorem nmX5 : ∀ a, a < 6 → ∀ b, b < 6 → a ≠ b → (TX5 a).2.1 ≠ (TX5 b).2.1 := by decide +kernel
theorem tyX5_ok : ∀ k, k < 6 → parseFieldDescriptor (TX5 k).2.2.1 = some (tyX5 k) := by decide +kernel
abbrev cX5_init : ByteArray := prog_7_method_1_code
def yX5_init : MethodName := ⟨RX5, "<init>", "(LUprightTurned$Units;LUprightTurned$Row;)V"⟩
abbrev cX5_forget : ByteArray := prog_7_method_2_code
def yX5_forget : MethodName := ⟨RX5, "forget", "()V"⟩
abbrev cX5_slotOf : ByteArray := prog_7_method_3_code
def yX5_slotOf : MethodName := ⟨RX5, "slotOf", "(II)I"⟩
abbrev cX5_trim : ByteArray := prog_7_method_4_code
def yX5_trim : MethodName := ⟨RX5, "trim", "(II)V"⟩
abbrev cX5_spaceOf : ByteArray := prog_7_method_5_code
def yX5_spaceOf : MethodName := ⟨RX5, "spaceOf", "(I)I"⟩
abbrev cX5_hangsOut : ByteArray := prog_7_method_6_code
def yX5_hangsOut : MethodName := ⟨RX5, "hangsOut", "(I)Z"⟩
abbrev cX5_widthOf : ByteArray := prog_7_method_7_code
def yX5_widthOf : MethodName := ⟨RX5, "widthOf", "(I)I"⟩
abbrev cX5_longWith : ByteArray := prog_7_method_8_code
def yX5_longWith : MethodName := ⟨RX5, "longWith", "(III)I"⟩
abbrev cX5_lengthOf : ByteArray := prog_7_method_9_code
def yX5_lengthOf : MethodName := ⟨RX5, "lengthOf", "(II)I"⟩
def RX6 : String := "UprightTurned$Reader"
def TX6 : u_T := fun k => match k with
  | 0 => ("UprightTurned$Reader", "draft", "LUprightTurned$Text;", true)
  | 1 => ("UprightTurned$Reader", "state", "I", false)
  | 2 => ("UprightTurned$Reader", "bases", "I", false)
  | 3 => ("UprightTurned$Reader", "bigs", "I", false)
  | 4 => ("UprightTurned$Reader", "letters", "I", false)
  | 5 => ("UprightTurned$Reader", "head", "I", false)
  | 6 => ("UprightTurned$Reader", "side", "I", false)
  | _ => ("UprightTurned$Reader", "place", "I", false)
def tyX6 : Nat → FieldType := fun k => match k with
  | 0 => .object "UprightTurned$Text"
  | 1 => .int
  | 2 => .int
  | 3 => .int
  | 4 => .int
  | 5 => .int
  | 6 => .int
  | _ => .int
theorem nmX6 : ∀ a, a < 8 → ∀ b, b < 8 → a ≠ b → (TX6 a).2.1 ≠ (TX6 b).2.1 := by decide +kernel
theorem tyX6_ok : ∀ k, k < 8 → parseFieldDescriptor (TX6 k).2.2.1 = some (tyX6 k) := by decide +kernel
abbrev cX6_init : ByteArray := prog_8_method_1_code
def yX6_init : MethodName := ⟨RX6, "<init>", "(LUprightTurned$Text;)V"⟩
abbrev cX6_read : ByteArray := prog_8_method_2_code
def yX6_read : MethodName := ⟨RX6, "read", "(LUprightTurned$Row;I)I"⟩
abbrev cX6_step : ByteArray := prog_8_method_3_code
def yX6_step : MethodName := ⟨RX6, "step", "(I)I"⟩
abbrev cX6_stepOutside : ByteArray := prog_8_method_4_code
def yX6_stepOutside : MethodName := ⟨RX6, "stepOutside", "(I)I"⟩
abbrev cX6_stepBaseDue : ByteArray := prog_8_method_5_code
def yX6_stepBaseDue : MethodName := ⟨RX6, "stepBaseDue", "(I)I"⟩
abbrev cX6_stepInBase : ByteArray := prog_8_method_6_code
def yX6_stepInBase : MethodName := ⟨RX6, "stepInBase", "(I)I"⟩
abbrev cX6_stepInReading : ByteArray := prog_8_method_7_code
def yX6_stepInReading : MethodName := ⟨RX6, "stepInReading", "(I)I"⟩
abbrev cX6_addSign : ByteArray := prog_8_method_8_code
def yX6_addSign : MethodName := ⟨RX6, "addSign", "(IIII)I"⟩
abbrev cX6_standsAlone : ByteArray := prog_8_method_9_code
def yX6_standsAlone : MethodName := ⟨RX6, "standsAlone", "(I)Z"⟩
abbrev cX6_isBig : ByteArray := prog_8_method_10_code
def yX6_isBig : MethodName := ⟨RX6, "isBig", "(I)Z"⟩
abbrev cX6_isSmall : ByteArray := prog_8_method_11_code
def yX6_isSmall : MethodName := ⟨RX6, "isSmall", "(I)Z"⟩
def RX7 : String := "UprightTurned$Row"
def TX7 : u_T := fun k => match k with
  | _ => ("UprightTurned$Row", "cells", "[I", true)
def tyX7 : Nat → FieldType := fun k => match k with
  | _ => .array .int
theorem nmX7 : ∀ a, a < 1 → ∀ b, b < 1 → a ≠ b → (TX7 a).2.1 ≠ (TX7 b).2.1 := by decide +kernel
theorem tyX7_ok : ∀ k, k < 1 → parseFieldDescriptor (TX7 k).2.2.1 = some (tyX7 k) := by decide +kernel
abbrev cX7_init : ByteArray := prog_9_method_1_code
def yX7_init : MethodName := ⟨RX7, "<init>", "(I)V"⟩
abbrev cX7_get : ByteArray := prog_9_method_2_code
def yX7_get : MethodName := ⟨RX7, "get", "(I)I"⟩
abbrev cX7_put : ByteArray := prog_9_method_3_code
def yX7_put : MethodName := ⟨RX7, "put", "(II)V"⟩
abbrev cX7_add : ByteArray := prog_9_method_4_code
def yX7_add : MethodName := ⟨RX7, "add", "(II)V"⟩
abbrev cX7_clear : ByteArray := prog_9_method_5_code
def yX7_clear : MethodName := ⟨RX7, "clear", "(I)V"⟩
abbrev cX7_copyFrom : ByteArray := prog_9_method_6_code
def yX7_copyFrom : MethodName := ⟨RX7, "copyFrom", "(LUprightTurned$Row;I)V"⟩
abbrev cX7_close : ByteArray := prog_9_method_7_code
def yX7_close : MethodName := ⟨RX7, "close", "(III)V"⟩
def RX8 : String := "UprightTurned$Sides"
def TX8 : u_T := fun k => match k with
  | 0 => ("UprightTurned$Sides", "layout", "LUprightTurned$Layout;", true)
  | 1 => ("UprightTurned$Sides", "units", "LUprightTurned$Units;", true)
  | 2 => ("UprightTurned$Sides", "settings", "LUprightTurned$Row;", true)
  | 3 => ("UprightTurned$Sides", "paint", "LUprightTurned$Row;", true)
  | 4 => ("UprightTurned$Sides", "meeting", "LUprightTurned$Row;", true)
  | 5 => ("UprightTurned$Sides", "gutter", "LUprightTurned$Row;", true)
  | 6 => ("UprightTurned$Sides", "guttersBefore", "LUprightTurned$Row;", true)
  | 7 => ("UprightTurned$Sides", "outerRight", "LUprightTurned$Row;", true)
  | 8 => ("UprightTurned$Sides", "outerLeft", "LUprightTurned$Row;", true)
  | _ => ("UprightTurned$Sides", "colour", "I", false)
def tyX8 : Nat → FieldType := fun k => match k with
  | 0 => .object "UprightTurned$Layout"
  | 1 => .object "UprightTurned$Units"
  | 2 => .object "UprightTurned$Row"
  | 3 => .object "UprightTurned$Row"
  | 4 => .object "UprightTurned$Row"
  | 5 => .object "UprightTurned$Row"
  | 6 => .object "UprightTurned$Row"
  | 7 => .object "UprightTurned$Row"
  | 8 => .object "UprightTurned$Row"
  | _ => .int
theorem nmX8 : ∀ a, a < 10 → ∀ b, b < 10 → a ≠ b → (TX8 a).2.1 ≠ (TX8 b).2.1 := by decide +kernel
theorem tyX8_ok : ∀ k, k < 10 → parseFieldDescriptor (TX8 k).2.2.1 = some (tyX8 k) := by decide +kernel
abbrev cX8_init : ByteArray := prog_10_method_1_code
def yX8_init : MethodName := ⟨RX8, "<init>", "(LUprightTurned$Layout;LUprightTurned$Units;LUprightTurned$Row;)V"⟩
abbrev cX8_build : ByteArray := prog_10_method_2_code
def yX8_build : MethodName := ⟨RX8, "build", "()V"⟩
abbrev cX8_outerOn : ByteArray := prog_10_method_3_code
def yX8_outerOn : MethodName := ⟨RX8, "outerOn", "(II)I"⟩
abbrev cX8_visit : ByteArray := prog_10_method_4_code
def yX8_visit : MethodName := ⟨RX8, "visit", "(IIZ)I"⟩
abbrev cX8_span : ByteArray := prog_10_method_5_code
def yX8_span : MethodName := ⟨RX8, "span", "(IIZ)I"⟩
abbrev cX8_thickOf : ByteArray := prog_10_method_6_code
def yX8_thickOf : MethodName := ⟨RX8, "thickOf", "(II)I"⟩
abbrev cX8_pageEnd : ByteArray := prog_10_method_7_code
def yX8_pageEnd : MethodName := ⟨RX8, "pageEnd", "(II)I"⟩
abbrev cX8_pageCount : ByteArray := prog_10_method_8_code
def yX8_pageCount : MethodName := ⟨RX8, "pageCount", "(I)I"⟩
def RX9 : String := "UprightTurned$Text"
def TX9 : u_T := fun k => match k with
  | 0 => ("UprightTurned$Text", "code", "LUprightTurned$Row;", true)
  | 1 => ("UprightTurned$Text", "penned", "LUprightTurned$Row;", true)
  | 2 => ("UprightTurned$Text", "group", "LUprightTurned$Row;", true)
  | 3 => ("UprightTurned$Text", "head", "LUprightTurned$Row;", true)
  | 4 => ("UprightTurned$Text", "right", "LUprightTurned$LongRow;", true)
  | 5 => ("UprightTurned$Text", "left", "LUprightTurned$LongRow;", true)
  | 6 => ("UprightTurned$Text", "count", "I", false)
  | 7 => ("UprightTurned$Text", "groupCount", "I", false)
  | _ => ("UprightTurned$Text", "pen", "I", false)
def tyX9 : Nat → FieldType := fun k => match k with
  | 0 => .object "UprightTurned$Row"
  | 1 => .object "UprightTurned$Row"
  | 2 => .object "UprightTurned$Row"
  | 3 => .object "UprightTurned$Row"
  | 4 => .object "UprightTurned$LongRow"
  | 5 => .object "UprightTurned$LongRow"
  | 6 => .int
  | 7 => .int
  | _ => .int
theorem nmX9 : ∀ a, a < 9 → ∀ b, b < 9 → a ≠ b → (TX9 a).2.1 ≠ (TX9 b).2.1 := by decide +kernel
theorem tyX9_ok : ∀ k, k < 9 → parseFieldDescriptor (TX9 k).2.2.1 = some (tyX9 k) := by decide +kernel
abbrev cX9_init : ByteArray := prog_11_method_1_code
def yX9_init : MethodName := ⟨RX9, "<init>", "()V"⟩
abbrev cX9_clear : ByteArray := prog_11_method_2_code
def yX9_clear : MethodName := ⟨RX9, "clear", "()V"⟩
abbrev cX9_copyFrom : ByteArray := prog_11_method_3_code
def yX9_copyFrom : MethodName := ⟨RX9, "copyFrom", "(LUprightTurned$Text;)V"⟩
abbrev cX9_add : ByteArray := prog_11_method_4_code
def yX9_add : MethodName := ⟨RX9, "add", "(IIII)V"⟩
abbrev cX9_drop : ByteArray := prog_11_method_5_code
def yX9_drop : MethodName := ⟨RX9, "drop", "(II)V"⟩
abbrev cX9_renumber : ByteArray := prog_11_method_6_code
def yX9_renumber : MethodName := ⟨RX9, "renumber", "()V"⟩
abbrev cX9_readings : ByteArray := prog_11_method_7_code
def yX9_readings : MethodName := ⟨RX9, "readings", "(I)LUprightTurned$LongRow;"⟩
abbrev cX9_addLetter : ByteArray := prog_11_method_8_code
def yX9_addLetter : MethodName := ⟨RX9, "addLetter", "(III)V"⟩
abbrev cX9_letterCount : ByteArray := prog_11_method_9_code
def yX9_letterCount : MethodName := ⟨RX9, "letterCount", "(II)I"⟩
abbrev cX9_letterCode : ByteArray := prog_11_method_10_code
def yX9_letterCode : MethodName := ⟨RX9, "letterCode", "(III)I"⟩
def RX10 : String := "UprightTurned$Units"
def TX10 : u_T := fun k => match k with
  | 0 => ("UprightTurned$Units", "text", "LUprightTurned$Text;", true)
  | 1 => ("UprightTurned$Units", "settings", "LUprightTurned$Row;", true)
  | 2 => ("UprightTurned$Units", "kind", "LUprightTurned$Row;", true)
  | 3 => ("UprightTurned$Units", "first", "LUprightTurned$Row;", true)
  | 4 => ("UprightTurned$Units", "size", "LUprightTurned$Row;", true)
  | 5 => ("UprightTurned$Units", "width", "LUprightTurned$Row;", true)
  | 6 => ("UprightTurned$Units", "group", "LUprightTurned$Row;", true)
  | 7 => ("UprightTurned$Units", "right", "LUprightTurned$Row;", true)
  | 8 => ("UprightTurned$Units", "left", "LUprightTurned$Row;", true)
  | 9 => ("UprightTurned$Units", "partner", "LUprightTurned$Row;", true)
  | 10 => ("UprightTurned$Units", "mayEnd", "LUprightTurned$Row;", true)
  | 11 => ("UprightTurned$Units", "before", "LUprightTurned$Row;", true)
  | 12 => ("UprightTurned$Units", "solidBefore", "LUprightTurned$Row;", true)
  | 13 => ("UprightTurned$Units", "signUnit", "LUprightTurned$Row;", true)
  | 14 => ("UprightTurned$Units", "signLong", "LUprightTurned$Row;", true)
  | 15 => ("UprightTurned$Units", "signTurned", "LUprightTurned$Row;", true)
  | 16 => ("UprightTurned$Units", "count", "I", false)
  | 17 => ("UprightTurned$Units", "pairs", "I", false)
  | _ => ("UprightTurned$Units", "tied", "I", false)
def tyX10 : Nat → FieldType := fun k => match k with
  | 0 => .object "UprightTurned$Text"
  | 1 => .object "UprightTurned$Row"
  | 2 => .object "UprightTurned$Row"
  | 3 => .object "UprightTurned$Row"
  | 4 => .object "UprightTurned$Row"
  | 5 => .object "UprightTurned$Row"
  | 6 => .object "UprightTurned$Row"
  | 7 => .object "UprightTurned$Row"
  | 8 => .object "UprightTurned$Row"
  | 9 => .object "UprightTurned$Row"
  | 10 => .object "UprightTurned$Row"
  | 11 => .object "UprightTurned$Row"
  | 12 => .object "UprightTurned$Row"
  | 13 => .object "UprightTurned$Row"
  | 14 => .object "UprightTurned$Row"
  | 15 => .object "UprightTurned$Row"
  | 16 => .int
  | 17 => .int
  | _ => .int
theorem nmX10 : ∀ a, a < 19 → ∀ b, b < 19 → a ≠ b → (TX10 a).2.1 ≠ (TX10 b).2.1 := by decide +kernel
theorem tyX10_ok : ∀ k, k < 19 → parseFieldDescriptor (TX10 k).2.2.1 = some (tyX10 k) := by decide +kernel
abbrev cX10_init : ByteArray := prog_12_method_1_code
def yX10_init : MethodName := ⟨RX10, "<init>", "(LUprightTurned$Text;LUprightTurned$Row;)V"⟩
abbrev cX10_build : ByteArray := prog_12_method_2_code
def yX10_build : MethodName := ⟨RX10, "build", "()V"⟩
abbrev cX10_split : ByteArray := prog_12_method_3_code
def yX10_split : MethodName := ⟨RX10, "split", "()V"⟩
abbrev cX10_startsUnit : ByteArray := prog_12_method_4_code
def yX10_startsUnit : MethodName := ⟨RX10, "startsUnit", "(I)Z"⟩
abbrev cX10_kindAt : ByteArray := prog_12_method_5_code
def yX10_kindAt : MethodName := ⟨RX10, "kindAt", "(I)I"⟩
abbrev cX10_measureUnit : ByteArray := prog_12_method_6_code
def yX10_measureUnit : MethodName := ⟨RX10, "measureUnit", "(I)V"⟩
abbrev cX10_isAcross : ByteArray := prog_12_method_7_code
def yX10_isAcross : MethodName := ⟨RX10, "isAcross", "(I)Z"⟩
abbrev cX10_isTurned : ByteArray := prog_12_method_8_code
def yX10_isTurned : MethodName := ⟨RX10, "isTurned", "(IZ)Z"⟩
abbrev cX10_longOfSign : ByteArray := prog_12_method_9_code
def yX10_longOfSign : MethodName := ⟨RX10, "longOfSign", "(II)I"⟩
abbrev cX10_addUp : ByteArray := prog_12_method_10_code
def yX10_addUp : MethodName := ⟨RX10, "addUp", "()V"⟩
abbrev cX10_pairUp : ByteArray := prog_12_method_11_code
def yX10_pairUp : MethodName := ⟨RX10, "pairUp", "()V"⟩
abbrev cX10_latestOpen : ByteArray := prog_12_method_12_code
def yX10_latestOpen : MethodName := ⟨RX10, "latestOpen", "(I)I"⟩
abbrev cX10_allowsEnd : ByteArray := prog_12_method_13_code
def yX10_allowsEnd : MethodName := ⟨RX10, "allowsEnd", "(I)Z"⟩
abbrev cX10_tie : ByteArray := prog_12_method_14_code
def yX10_tie : MethodName := ⟨RX10, "tie", "()V"⟩
abbrev cX10_solid : ByteArray := prog_12_method_15_code
def yX10_solid : MethodName := ⟨RX10, "solid", "(II)I"⟩
abbrev cX10_markBit : ByteArray := prog_12_method_16_code
def yX10_markBit : MethodName := ⟨RX10, "markBit", "(I)I"⟩
abbrev cX10_markOf : ByteArray := prog_12_method_17_code
def yX10_markOf : MethodName := ⟨RX10, "markOf", "(II)I"⟩
abbrev cX10_marksOf : ByteArray := prog_12_method_18_code
def yX10_marksOf : MethodName := ⟨RX10, "marksOf", "(III)I"⟩
def RX11 : String := "UprightTurned"
def TX11 : u_T := fun k => match k with
  | 0 => ("UprightTurned", "settings", "LUprightTurned$Row;", true)
  | 1 => ("UprightTurned", "tape", "LUprightTurned$Row;", true)
  | 2 => ("UprightTurned", "text", "LUprightTurned$Text;", true)
  | 3 => ("UprightTurned", "draft", "LUprightTurned$Text;", true)
  | 4 => ("UprightTurned", "reader", "LUprightTurned$Reader;", true)
  | 5 => ("UprightTurned", "history", "LUprightTurned$History;", true)
  | 6 => ("UprightTurned", "units", "LUprightTurned$Units;", true)
  | 7 => ("UprightTurned", "measure", "LUprightTurned$Measure;", true)
  | 8 => ("UprightTurned", "breaker", "LUprightTurned$Breaker;", true)
  | 9 => ("UprightTurned", "trial", "LUprightTurned$Breaker;", true)
  | 10 => ("UprightTurned", "layout", "LUprightTurned$Layout;", true)
  | 11 => ("UprightTurned", "sides", "LUprightTurned$Sides;", true)
  | 12 => ("UprightTurned", "taped", "I", false)
  | 13 => ("UprightTurned", "faultPlace", "I", false)
  | 14 => ("UprightTurned", "missing", "I", false)
  | 15 => ("UprightTurned", "wrong", "I", false)
  | 16 => ("UprightTurned", "unitsFresh", "Z", false)
  | 17 => ("UprightTurned", "linesFresh", "Z", false)
  | _ => ("UprightTurned", "sidesFresh", "Z", false)
def tyX11 : Nat → FieldType := fun k => match k with
  | 0 => .object "UprightTurned$Row"
  | 1 => .object "UprightTurned$Row"
  | 2 => .object "UprightTurned$Text"
  | 3 => .object "UprightTurned$Text"
  | 4 => .object "UprightTurned$Reader"
  | 5 => .object "UprightTurned$History"
  | 6 => .object "UprightTurned$Units"
  | 7 => .object "UprightTurned$Measure"
  | 8 => .object "UprightTurned$Breaker"
  | 9 => .object "UprightTurned$Breaker"
  | 10 => .object "UprightTurned$Layout"
  | 11 => .object "UprightTurned$Sides"
  | 12 => .int
  | 13 => .int
  | 14 => .int
  | 15 => .int
  | 16 => .boolean
  | 17 => .boolean
  | _ => .boolean
theorem nmX11 : ∀ a, a < 19 → ∀ b, b < 19 → a ≠ b → (TX11 a).2.1 ≠ (TX11 b).2.1 := by decide +kernel
theorem tyX11_ok : ∀ k, k < 19 → parseFieldDescriptor (TX11 k).2.2.1 = some (tyX11 k) := by decide +kernel
abbrev cX11_init : ByteArray := prog_1_method_1_code
def yX11_init : MethodName := ⟨RX11, "<init>", "()V"⟩
abbrev cX11_feed : ByteArray := prog_1_method_2_code
def yX11_feed : MethodName := ⟨RX11, "feed", "(IIIII)I"⟩
abbrev cX11_text : ByteArray := prog_1_method_3_code
def yX11_text : MethodName := ⟨RX11, "text", "(I)I"⟩
abbrev cX11_more : ByteArray := prog_1_method_4_code
def yX11_more : MethodName := ⟨RX11, "more", "(I)I"⟩
abbrev cX11_fault : ByteArray := prog_1_method_5_code
def yX11_fault : MethodName := ⟨RX11, "fault", "()I"⟩
abbrev cX11_set : ByteArray := prog_1_method_6_code
def yX11_set : MethodName := ⟨RX11, "set", "(II)I"⟩
abbrev cX11_cut : ByteArray := prog_1_method_7_code
def yX11_cut : MethodName := ⟨RX11, "cut", "(II)I"⟩
abbrev cX11_undo : ByteArray := prog_1_method_8_code
def yX11_undo : MethodName := ⟨RX11, "undo", "()I"⟩
abbrev cX11_told : ByteArray := prog_1_method_9_code
def yX11_told : MethodName := ⟨RX11, "told", "(I)J"⟩
abbrev cX11_unit : ByteArray := prog_1_method_10_code
def yX11_unit : MethodName := ⟨RX11, "unit", "(II)I"⟩
abbrev cX11_sign : ByteArray := prog_1_method_11_code
def yX11_sign : MethodName := ⟨RX11, "sign", "(II)I"⟩
abbrev cX11_line : ByteArray := prog_1_method_12_code
def yX11_line : MethodName := ⟨RX11, "line", "(II)I"⟩
abbrev cX11_block : ByteArray := prog_1_method_13_code
def yX11_block : MethodName := ⟨RX11, "block", "(II)I"⟩
abbrev cX11_reading : ByteArray := prog_1_method_14_code
def yX11_reading : MethodName := ⟨RX11, "reading", "(IIII)I"⟩
abbrev cX11_run : ByteArray := prog_1_method_15_code
def yX11_run : MethodName := ⟨RX11, "run", "(II)I"⟩
abbrev cX11_at : ByteArray := prog_1_method_16_code
def yX11_at : MethodName := ⟨RX11, "at", "(II)I"⟩
abbrev cX11_ends : ByteArray := prog_1_method_17_code
def yX11_ends : MethodName := ⟨RX11, "ends", "(I)Z"⟩
abbrev cX11_longOf : ByteArray := prog_1_method_18_code
def yX11_longOf : MethodName := ⟨RX11, "longOf", "(II)I"⟩
abbrev cX11_lines : ByteArray := prog_1_method_19_code
def yX11_lines : MethodName := ⟨RX11, "lines", "(II)I"⟩
abbrev cX11_least : ByteArray := prog_1_method_20_code
def yX11_least : MethodName := ⟨RX11, "least", "(I)I"⟩
abbrev cX11_better : ByteArray := prog_1_method_21_code
def yX11_better : MethodName := ⟨RX11, "better", "()J"⟩
abbrev cX11_marks : ByteArray := prog_1_method_22_code
def yX11_marks : MethodName := ⟨RX11, "marks", "(I)I"⟩
abbrev cX11_moves : ByteArray := prog_1_method_23_code
def yX11_moves : MethodName := ⟨RX11, "moves", "()I"⟩
abbrev cX11_lend : ByteArray := prog_1_method_24_code
def yX11_lend : MethodName := ⟨RX11, "lend", "(I)I"⟩
abbrev cX11_nearest : ByteArray := prog_1_method_25_code
def yX11_nearest : MethodName := ⟨RX11, "nearest", "(I)I"⟩
abbrev cX11_partner : ByteArray := prog_1_method_26_code
def yX11_partner : MethodName := ⟨RX11, "partner", "(I)I"⟩
abbrev cX11_side : ByteArray := prog_1_method_27_code
def yX11_side : MethodName := ⟨RX11, "side", "(III)I"⟩
abbrev cX11_gutter : ByteArray := prog_1_method_28_code
def yX11_gutter : MethodName := ⟨RX11, "gutter", "(I)I"⟩
abbrev cX11_clash : ByteArray := prog_1_method_29_code
def yX11_clash : MethodName := ⟨RX11, "clash", "(I)I"⟩
abbrev cX11_thick : ByteArray := prog_1_method_30_code
def yX11_thick : MethodName := ⟨RX11, "thick", "(II)I"⟩
abbrev cX11_pages : ByteArray := prog_1_method_31_code
def yX11_pages : MethodName := ⟨RX11, "pages", "(I)I"⟩
abbrev cX11_page : ByteArray := prog_1_method_32_code
def yX11_page : MethodName := ⟨RX11, "page", "(III)I"⟩
abbrev cX11_narrow : ByteArray := prog_1_method_33_code
def yX11_narrow : MethodName := ⟨RX11, "narrow", "(I)I"⟩
abbrev cX11_status : ByteArray := prog_1_method_34_code
def yX11_status : MethodName := ⟨RX11, "status", "(I)I"⟩
abbrev cX11_needExisting : ByteArray := prog_1_method_35_code
def yX11_needExisting : MethodName := ⟨RX11, "needExisting", "(II)V"⟩
abbrev cX11_needWithin : ByteArray := prog_1_method_36_code
def yX11_needWithin : MethodName := ⟨RX11, "needWithin", "(III)V"⟩
abbrev cX11_shortestFor : ByteArray := prog_1_method_37_code
def yX11_shortestFor : MethodName := ⟨RX11, "shortestFor", "(II)I"⟩
abbrev cX11_pick : ByteArray := prog_1_method_38_code
def yX11_pick : MethodName := ⟨RX11, "pick", "([II)I"⟩
abbrev cX11_tapeNumber : ByteArray := prog_1_method_39_code
def yX11_tapeNumber : MethodName := ⟨RX11, "tapeNumber", "(I)V"⟩
abbrev cX11_readTape : ByteArray := prog_1_method_40_code
def yX11_readTape : MethodName := ⟨RX11, "readTape", "(I)I"⟩
abbrev cX11_refresh : ByteArray := prog_1_method_41_code
def yX11_refresh : MethodName := ⟨RX11, "refresh", "()V"⟩
abbrev cX11_refreshSides : ByteArray := prog_1_method_42_code
def yX11_refreshSides : MethodName := ⟨RX11, "refreshSides", "()V"⟩
def RX12 : String := "UprightTurnedModel"
def TX12 : u_T := fun k => match k with
  | 0 => ("UprightTurnedModel", "thrown", "I", false)
  | 1 => ("UprightTurnedModel", "refused", "[I", true)
  | 2 => ("UprightTurnedModel", "tape", "I", false)
  | 3 => ("UprightTurnedModel", "size", "I", false)
  | 4 => ("UprightTurnedModel", "at", "I", false)
  | 5 => ("UprightTurnedModel", "place", "I", false)
  | 6 => ("UprightTurnedModel", "fault", "I", false)
  | 7 => ("UprightTurnedModel", "faultAt", "I", false)
  | 8 => ("UprightTurnedModel", "fed", "[I", true)
  | 9 => ("UprightTurnedModel", "field", "[I", true)
  | 10 => ("UprightTurnedModel", "lowest", "[I", true)
  | 11 => ("UprightTurnedModel", "greatest", "[I", true)
  | 12 => ("UprightTurnedModel", "head", "[[I", true)
  | 13 => ("UprightTurnedModel", "byteOf", "[[I", true)
  | 14 => ("UprightTurnedModel", "kindOf", "[[I", true)
  | 15 => ("UprightTurnedModel", "baseOf", "[[I", true)
  | 16 => ("UprightTurnedModel", "markOf", "[[I", true)
  | 17 => ("UprightTurnedModel", "groupOf", "[[I", true)
  | 18 => ("UprightTurnedModel", "letters", "[[[I", true)
  | 19 => ("UprightTurnedModel", "backs", "I", false)
  | 20 => ("UprightTurnedModel", "units", "I", false)
  | 21 => ("UprightTurnedModel", "kind", "[I", true)
  | 22 => ("UprightTurnedModel", "first", "[I", true)
  | 23 => ("UprightTurnedModel", "many", "[I", true)
  | 24 => ("UprightTurnedModel", "unitOf", "[I", true)
  | 25 => ("UprightTurnedModel", "w", "[I", true)
  | 26 => ("UprightTurnedModel", "spaceAhead", "[I", true)
  | 27 => ("UprightTurnedModel", "spaceBehind", "[I", true)
  | 28 => ("UprightTurnedModel", "padAhead", "[I", true)
  | 29 => ("UprightTurnedModel", "padBehind", "[I", true)
  | 30 => ("UprightTurnedModel", "blockOf", "[I", true)
  | 31 => ("UprightTurnedModel", "wantAhead", "[I", true)
  | 32 => ("UprightTurnedModel", "wantBehind", "[I", true)
  | 33 => ("UprightTurnedModel", "over", "[I", true)
  | 34 => ("UprightTurnedModel", "total", "[I", true)
  | 35 => ("UprightTurnedModel", "hangs", "Z", false)
  | 36 => ("UprightTurnedModel", "isKept", "Z", false)
  | 37 => ("UprightTurnedModel", "kept", "[[I", true)
  | 38 => ("UprightTurnedModel", "pairs", "I", false)
  | 39 => ("UprightTurnedModel", "tied", "I", false)
  | 40 => ("UprightTurnedModel", "partner", "[I", true)
  | 41 => ("UprightTurnedModel", "opened", "[I", true)
  | 42 => ("UprightTurnedModel", "isTight", "[Z", true)
  | 43 => ("UprightTurnedModel", "isBroken", "Z", false)
  | 44 => ("UprightTurnedModel", "lines", "I", false)
  | 45 => ("UprightTurnedModel", "lineFrom", "[I", true)
  | 46 => ("UprightTurnedModel", "best", "[J", true)
  | 47 => ("UprightTurnedModel", "ending", "[I", true)
  | 48 => ("UprightTurnedModel", "lineOf", "[I", true)
  | 49 => ("UprightTurnedModel", "unitAt", "[I", true)
  | 50 => ("UprightTurnedModel", "signAt", "[I", true)
  | 51 => ("UprightTurnedModel", "hasSpace", "[I", true)
  | 52 => ("UprightTurnedModel", "isWide", "[I", true)
  | 53 => ("UprightTurnedModel", "lineLong", "[I", true)
  | 54 => ("UprightTurnedModel", "lineGaps", "[I", true)
  | 55 => ("UprightTurnedModel", "lineBlocks", "[I", true)
  | 56 => ("UprightTurnedModel", "linePads", "[I", true)
  | 57 => ("UprightTurnedModel", "lineHangs", "[I", true)
  | 58 => ("UprightTurnedModel", "blocks", "I", false)
  | 59 => ("UprightTurnedModel", "block", "[[I", true)
  | 60 => ("UprightTurnedModel", "things", "I", false)
  | 61 => ("UprightTurnedModel", "thing", "[[I", true)
  | 62 => ("UprightTurnedModel", "pageFrom", "[I", true)
  | 63 => ("UprightTurnedModel", "gutters", "[I", true)
  | 64 => ("UprightTurnedModel", "outer", "[I", true)
  | 65 => ("UprightTurnedModel", "lineWas", "[I", true)
  | _ => ("UprightTurnedModel", "baseNew", "[I", true)
def tyX12 : Nat → FieldType := fun k => match k with
  | 0 => .int
  | 1 => .array .int
  | 2 => .int
  | 3 => .int
  | 4 => .int
  | 5 => .int
  | 6 => .int
  | 7 => .int
  | 8 => .array .int
  | 9 => .array .int
  | 10 => .array .int
  | 11 => .array .int
  | 12 => .array (.array .int)
  | 13 => .array (.array .int)
  | 14 => .array (.array .int)
  | 15 => .array (.array .int)
  | 16 => .array (.array .int)
  | 17 => .array (.array .int)
  | 18 => .array (.array (.array .int))
  | 19 => .int
  | 20 => .int
  | 21 => .array .int
  | 22 => .array .int
  | 23 => .array .int
  | 24 => .array .int
  | 25 => .array .int
  | 26 => .array .int
  | 27 => .array .int
  | 28 => .array .int
  | 29 => .array .int
  | 30 => .array .int
  | 31 => .array .int
  | 32 => .array .int
  | 33 => .array .int
  | 34 => .array .int
  | 35 => .boolean
  | 36 => .boolean
  | 37 => .array (.array .int)
  | 38 => .int
  | 39 => .int
  | 40 => .array .int
  | 41 => .array .int
  | 42 => .array .boolean
  | 43 => .boolean
  | 44 => .int
  | 45 => .array .int
  | 46 => .array .long
  | 47 => .array .int
  | 48 => .array .int
  | 49 => .array .int
  | 50 => .array .int
  | 51 => .array .int
  | 52 => .array .int
  | 53 => .array .int
  | 54 => .array .int
  | 55 => .array .int
  | 56 => .array .int
  | 57 => .array .int
  | 58 => .int
  | 59 => .array (.array .int)
  | 60 => .int
  | 61 => .array (.array .int)
  | 62 => .array .int
  | 63 => .array .int
  | 64 => .array .int
  | 65 => .array .int
  | _ => .array .int
theorem nmX12 : ∀ a, a < 67 → ∀ b, b < 67 → a ≠ b → (TX12 a).2.1 ≠ (TX12 b).2.1 := by decide +kernel
theorem tyX12_ok : ∀ k, k < 67 → parseFieldDescriptor (TX12 k).2.2.1 = some (tyX12 k) := by decide +kernel
abbrev cX12_init : ByteArray := prog_14_method_1_code
def yX12_init : MethodName := ⟨RX12, "<init>", "()V"⟩
abbrev cX12_thrown : ByteArray := prog_14_method_2_code
def yX12_thrown : MethodName := ⟨RX12, "thrown", "()I"⟩
abbrev cX12_bad : ByteArray := prog_14_method_3_code
def yX12_bad : MethodName := ⟨RX12, "bad", "(ZII)Z"⟩
abbrev cX12_in : ByteArray := prog_14_method_4_code
def yX12_in : MethodName := ⟨RX12, "in", "(III)Z"⟩
abbrev cX12_less : ByteArray := prog_14_method_5_code
def yX12_less : MethodName := ⟨RX12, "less", "(II)I"⟩
abbrev cX12_more : ByteArray := prog_14_method_6_code
def yX12_more : MethodName := ⟨RX12, "more", "(II)I"⟩
abbrev cX12_feed : ByteArray := prog_14_method_7_code
def yX12_feed : MethodName := ⟨RX12, "feed", "(IIIII)I"⟩
abbrev cX12_here : ByteArray := prog_14_method_8_code
def yX12_here : MethodName := ⟨RX12, "here", "()I"⟩
abbrev cX12_isBig : ByteArray := prog_14_method_9_code
def yX12_isBig : MethodName := ⟨RX12, "isBig", "(I)Z"⟩
abbrev cX12_isSmall : ByteArray := prog_14_method_10_code
def yX12_isSmall : MethodName := ⟨RX12, "isSmall", "(I)Z"⟩
abbrev cX12_fine : ByteArray := prog_14_method_11_code
def yX12_fine : MethodName := ⟨RX12, "fine", "()Z"⟩
abbrev cX12_wrong : ByteArray := prog_14_method_12_code
def yX12_wrong : MethodName := ⟨RX12, "wrong", "(II)V"⟩
abbrev cX12_plainKind : ByteArray := prog_14_method_13_code
def yX12_plainKind : MethodName := ⟨RX12, "plainKind", "(I)I"⟩
abbrev cX12_addsSign : ByteArray := prog_14_method_14_code
def yX12_addsSign : MethodName := ⟨RX12, "addsSign", "(II)V"⟩
abbrev cX12_readsReading : ByteArray := prog_14_method_15_code
def yX12_readsReading : MethodName := ⟨RX12, "readsReading", "(II)V"⟩
abbrev cX12_readsBase : ByteArray := prog_14_method_16_code
def yX12_readsBase : MethodName := ⟨RX12, "readsBase", "(I)V"⟩
abbrev cX12_readsGroup : ByteArray := prog_14_method_17_code
def yX12_readsGroup : MethodName := ⟨RX12, "readsGroup", "()V"⟩
abbrev cX12_groupsOf : ByteArray := prog_14_method_18_code
def yX12_groupsOf : MethodName := ⟨RX12, "groupsOf", "(I)I"⟩
abbrev cX12_readsPart : ByteArray := prog_14_method_19_code
def yX12_readsPart : MethodName := ⟨RX12, "readsPart", "()V"⟩
abbrev cX12_copies : ByteArray := prog_14_method_20_code
def yX12_copies : MethodName := ⟨RX12, "copies", "(II)V"⟩
abbrev cX12_stands : ByteArray := prog_14_method_21_code
def yX12_stands : MethodName := ⟨RX12, "stands", "()V"⟩
abbrev cX12_reads : ByteArray := prog_14_method_22_code
def yX12_reads : MethodName := ⟨RX12, "reads", "(I)I"⟩
abbrev cX12_text : ByteArray := prog_14_method_23_code
def yX12_text : MethodName := ⟨RX12, "text", "(I)I"⟩
abbrev cX12_more_ : ByteArray := prog_14_method_24_code
def yX12_more_ : MethodName := ⟨RX12, "more", "(I)I"⟩
abbrev cX12_fault : ByteArray := prog_14_method_25_code
def yX12_fault : MethodName := ⟨RX12, "fault", "()I"⟩
abbrev cX12_undo : ByteArray := prog_14_method_26_code
def yX12_undo : MethodName := ⟨RX12, "undo", "()I"⟩
abbrev cX12_set : ByteArray := prog_14_method_27_code
def yX12_set : MethodName := ⟨RX12, "set", "(II)I"⟩
abbrev cX12_isOne : ByteArray := prog_14_method_28_code
def yX12_isOne : MethodName := ⟨RX12, "isOne", "(I)Z"⟩
abbrev cX12_laysUnits : ByteArray := prog_14_method_29_code
def yX12_laysUnits : MethodName := ⟨RX12, "laysUnits", "()V"⟩
abbrev cX12_group : ByteArray := prog_14_method_30_code
def yX12_group : MethodName := ⟨RX12, "group", "(I)I"⟩
abbrev cX12_lettersOf : ByteArray := prog_14_method_31_code
def yX12_lettersOf : MethodName := ⟨RX12, "lettersOf", "(II)I"⟩
abbrev cX12_isAcross : ByteArray := prog_14_method_32_code
def yX12_isAcross : MethodName := ⟨RX12, "isAcross", "(I)Z"⟩
abbrev cX12_wide : ByteArray := prog_14_method_33_code
def yX12_wide : MethodName := ⟨RX12, "wide", "(I)I"⟩
abbrev cX12_signLong : ByteArray := prog_14_method_34_code
def yX12_signLong : MethodName := ⟨RX12, "signLong", "(I)I"⟩
abbrev cX12_width : ByteArray := prog_14_method_35_code
def yX12_width : MethodName := ⟨RX12, "width", "(I)I"⟩
abbrev cX12_isTurned : ByteArray := prog_14_method_36_code
def yX12_isTurned : MethodName := ⟨RX12, "isTurned", "(I)Z"⟩
abbrev cX12_isPoint : ByteArray := prog_14_method_37_code
def yX12_isPoint : MethodName := ⟨RX12, "isPoint", "(I)Z"⟩
abbrev cX12_laysSpaces : ByteArray := prog_14_method_38_code
def yX12_laysSpaces : MethodName := ⟨RX12, "laysSpaces", "(II)V"⟩
abbrev cX12_laysBlocks : ByteArray := prog_14_method_39_code
def yX12_laysBlocks : MethodName := ⟨RX12, "laysBlocks", "(II)V"⟩
abbrev cX12_lends : ByteArray := prog_14_method_40_code
def yX12_lends : MethodName := ⟨RX12, "lends", "(IZ)I"⟩
abbrev cX12_mayAhead : ByteArray := prog_14_method_41_code
def yX12_mayAhead : MethodName := ⟨RX12, "mayAhead", "(III)I"⟩
abbrev cX12_mayBehind : ByteArray := prog_14_method_42_code
def yX12_mayBehind : MethodName := ⟨RX12, "mayBehind", "(III)I"⟩
abbrev cX12_lays : ByteArray := prog_14_method_43_code
def yX12_lays : MethodName := ⟨RX12, "lays", "(II)I"⟩
abbrev cX12_laysPairs : ByteArray := prog_14_method_44_code
def yX12_laysPairs : MethodName := ⟨RX12, "laysPairs", "()V"⟩
abbrev cX12_ties : ByteArray := prog_14_method_45_code
def yX12_ties : MethodName := ⟨RX12, "ties", "(II)V"⟩
abbrev cX12_freshens : ByteArray := prog_14_method_46_code
def yX12_freshens : MethodName := ⟨RX12, "freshens", "()V"⟩
abbrev cX12_longAs : ByteArray := prog_14_method_47_code
def yX12_longAs : MethodName := ⟨RX12, "longAs", "(II)I"⟩
abbrev cX12_mayEnd : ByteArray := prog_14_method_48_code
def yX12_mayEnd : MethodName := ⟨RX12, "mayEnd", "(I)Z"⟩
abbrev cX12_comes : ByteArray := prog_14_method_49_code
def yX12_comes : MethodName := ⟨RX12, "comes", "(II)I"⟩
abbrev cX12_cost : ByteArray := prog_14_method_50_code
def yX12_cost : MethodName := ⟨RX12, "cost", "(III)J"⟩
abbrev cX12_laysBest : ByteArray := prog_14_method_51_code
def yX12_laysBest : MethodName := ⟨RX12, "laysBest", "(I)V"⟩
abbrev cX12_breaks : ByteArray := prog_14_method_52_code
def yX12_breaks : MethodName := ⟨RX12, "breaks", "(II)I"⟩
abbrev cX12_isGap : ByteArray := prog_14_method_53_code
def yX12_isGap : MethodName := ⟨RX12, "isGap", "(II)Z"⟩
abbrev cX12_laysLine : ByteArray := prog_14_method_54_code
def yX12_laysLine : MethodName := ⟨RX12, "laysLine", "(I)V"⟩
abbrev cX12_addsBlock : ByteArray := prog_14_method_55_code
def yX12_addsBlock : MethodName := ⟨RX12, "addsBlock", "(II)V"⟩
abbrev cX12_laysAll : ByteArray := prog_14_method_56_code
def yX12_laysAll : MethodName := ⟨RX12, "laysAll", "()V"⟩
abbrev cX12_costs : ByteArray := prog_14_method_57_code
def yX12_costs : MethodName := ⟨RX12, "costs", "()J"⟩
abbrev cX12_longest : ByteArray := prog_14_method_58_code
def yX12_longest : MethodName := ⟨RX12, "longest", "()I"⟩
abbrev cX12_unfit : ByteArray := prog_14_method_59_code
def yX12_unfit : MethodName := ⟨RX12, "unfit", "()I"⟩
abbrev cX12_told : ByteArray := prog_14_method_60_code
def yX12_told : MethodName := ⟨RX12, "told", "(I)J"⟩
abbrev cX12_isUnit : ByteArray := prog_14_method_61_code
def yX12_isUnit : MethodName := ⟨RX12, "isUnit", "(I)Z"⟩
abbrev cX12_unit : ByteArray := prog_14_method_62_code
def yX12_unit : MethodName := ⟨RX12, "unit", "(II)I"⟩
abbrev cX12_marksOf : ByteArray := prog_14_method_63_code
def yX12_marksOf : MethodName := ⟨RX12, "marksOf", "(I)I"⟩
abbrev cX12_sign : ByteArray := prog_14_method_64_code
def yX12_sign : MethodName := ⟨RX12, "sign", "(II)I"⟩
abbrev cX12_marks : ByteArray := prog_14_method_65_code
def yX12_marks : MethodName := ⟨RX12, "marks", "(I)I"⟩
abbrev cX12_line : ByteArray := prog_14_method_66_code
def yX12_line : MethodName := ⟨RX12, "line", "(II)I"⟩
abbrev cX12_block : ByteArray := prog_14_method_67_code
def yX12_block : MethodName := ⟨RX12, "block", "(II)I"⟩
abbrev cX12_lettersIn : ByteArray := prog_14_method_68_code
def yX12_lettersIn : MethodName := ⟨RX12, "lettersIn", "(II)I"⟩
abbrev cX12_letterAt : ByteArray := prog_14_method_69_code
def yX12_letterAt : MethodName := ⟨RX12, "letterAt", "(III)I"⟩
abbrev cX12_letterPlace : ByteArray := prog_14_method_70_code
def yX12_letterPlace : MethodName := ⟨RX12, "letterPlace", "(III)I"⟩
abbrev cX12_reading : ByteArray := prog_14_method_71_code
def yX12_reading : MethodName := ⟨RX12, "reading", "(IIII)I"⟩
abbrev cX12_run : ByteArray := prog_14_method_72_code
def yX12_run : MethodName := ⟨RX12, "run", "(II)I"⟩
abbrev cX12_at : ByteArray := prog_14_method_73_code
def yX12_at : MethodName := ⟨RX12, "at", "(II)I"⟩
abbrev cX12_partner : ByteArray := prog_14_method_74_code
def yX12_partner : MethodName := ⟨RX12, "partner", "(I)I"⟩
abbrev cX12_addsThing : ByteArray := prog_14_method_75_code
def yX12_addsThing : MethodName := ⟨RX12, "addsThing", "(II)V"⟩
abbrev cX12_laysLetters : ByteArray := prog_14_method_76_code
def yX12_laysLetters : MethodName := ⟨RX12, "laysLetters", "(II)I"⟩
abbrev cX12_laysSide : ByteArray := prog_14_method_77_code
def yX12_laysSide : MethodName := ⟨RX12, "laysSide", "(II)I"⟩
abbrev cX12_isLine : ByteArray := prog_14_method_78_code
def yX12_isLine : MethodName := ⟨RX12, "isLine", "(I)Z"⟩
abbrev cX12_sideOf : ByteArray := prog_14_method_79_code
def yX12_sideOf : MethodName := ⟨RX12, "sideOf", "(II)I"⟩
abbrev cX12_side : ByteArray := prog_14_method_80_code
def yX12_side : MethodName := ⟨RX12, "side", "(III)I"⟩
abbrev cX12_clashOf : ByteArray := prog_14_method_81_code
def yX12_clashOf : MethodName := ⟨RX12, "clashOf", "(I)I"⟩
abbrev cX12_gutterOf : ByteArray := prog_14_method_82_code
def yX12_gutterOf : MethodName := ⟨RX12, "gutterOf", "(I)I"⟩
abbrev cX12_gutter : ByteArray := prog_14_method_83_code
def yX12_gutter : MethodName := ⟨RX12, "gutter", "(I)I"⟩
abbrev cX12_clash : ByteArray := prog_14_method_84_code
def yX12_clash : MethodName := ⟨RX12, "clash", "(I)I"⟩
abbrev cX12_thickOf : ByteArray := prog_14_method_85_code
def yX12_thickOf : MethodName := ⟨RX12, "thickOf", "(II)I"⟩
abbrev cX12_thick : ByteArray := prog_14_method_86_code
def yX12_thick : MethodName := ⟨RX12, "thick", "(II)I"⟩
abbrev cX12_laysGutters : ByteArray := prog_14_method_87_code
def yX12_laysGutters : MethodName := ⟨RX12, "laysGutters", "()V"⟩
abbrev cX12_pagesBy : ByteArray := prog_14_method_88_code
def yX12_pagesBy : MethodName := ⟨RX12, "pagesBy", "(I)I"⟩
abbrev cX12_pages : ByteArray := prog_14_method_89_code
def yX12_pages : MethodName := ⟨RX12, "pages", "(I)I"⟩
abbrev cX12_page : ByteArray := prog_14_method_90_code
def yX12_page : MethodName := ⟨RX12, "page", "(III)I"⟩
abbrev cX12_narrow : ByteArray := prog_14_method_91_code
def yX12_narrow : MethodName := ⟨RX12, "narrow", "(I)I"⟩
abbrev cX12_ends : ByteArray := prog_14_method_92_code
def yX12_ends : MethodName := ⟨RX12, "ends", "(I)Z"⟩
abbrev cX12_longOf : ByteArray := prog_14_method_93_code
def yX12_longOf : MethodName := ⟨RX12, "longOf", "(II)I"⟩
abbrev cX12_lines : ByteArray := prog_14_method_94_code
def yX12_lines : MethodName := ⟨RX12, "lines", "(II)I"⟩
abbrev cX12_least : ByteArray := prog_14_method_95_code
def yX12_least : MethodName := ⟨RX12, "least", "(I)I"⟩
abbrev cX12_costsBy : ByteArray := prog_14_method_96_code
def yX12_costsBy : MethodName := ⟨RX12, "costsBy", "(I)J"⟩
abbrev cX12_better : ByteArray := prog_14_method_97_code
def yX12_better : MethodName := ⟨RX12, "better", "()J"⟩
abbrev cX12_moves : ByteArray := prog_14_method_98_code
def yX12_moves : MethodName := ⟨RX12, "moves", "()I"⟩
abbrev cX12_turnsOver : ByteArray := prog_14_method_99_code
def yX12_turnsOver : MethodName := ⟨RX12, "turnsOver", "()V"⟩
abbrev cX12_lend : ByteArray := prog_14_method_100_code
def yX12_lend : MethodName := ⟨RX12, "lend", "(I)I"⟩
abbrev cX12_lineOfBlock : ByteArray := prog_14_method_101_code
def yX12_lineOfBlock : MethodName := ⟨RX12, "lineOfBlock", "(I)I"⟩
abbrev cX12_nextBlock : ByteArray := prog_14_method_102_code
def yX12_nextBlock : MethodName := ⟨RX12, "nextBlock", "(II)I"⟩
abbrev cX12_nearest : ByteArray := prog_14_method_103_code
def yX12_nearest : MethodName := ⟨RX12, "nearest", "(I)I"⟩
abbrev cX12_cut : ByteArray := prog_14_method_104_code
def yX12_cut : MethodName := ⟨RX12, "cut", "(II)I"⟩
abbrev cX12_status : ByteArray := prog_14_method_105_code
def yX12_status : MethodName := ⟨RX12, "status", "(I)I"⟩
def RL : String := "UprightTurnedLaw"
abbrev cL_text : ByteArray := method_3_code
def yL_text : MethodName := ⟨RL, "text", "(LUprightTurned;I[J)I"⟩
abbrev cL_more : ByteArray := method_4_code
def yL_more : MethodName := ⟨RL, "more", "(LUprightTurned;I[J)I"⟩
abbrev cL_set : ByteArray := method_5_code
def yL_set : MethodName := ⟨RL, "set", "(LUprightTurned;II[J)I"⟩
abbrev cL_cut : ByteArray := method_6_code
def yL_cut : MethodName := ⟨RL, "cut", "(LUprightTurned;II[J)I"⟩
abbrev cL_told : ByteArray := method_7_code
def yL_told : MethodName := ⟨RL, "told", "(LUprightTurned;I[J)I"⟩
abbrev cL_unit : ByteArray := method_8_code
def yL_unit : MethodName := ⟨RL, "unit", "(LUprightTurned;II[J)I"⟩
abbrev cL_sign : ByteArray := method_9_code
def yL_sign : MethodName := ⟨RL, "sign", "(LUprightTurned;II[J)I"⟩
abbrev cL_line : ByteArray := method_10_code
def yL_line : MethodName := ⟨RL, "line", "(LUprightTurned;II[J)I"⟩
abbrev cL_block : ByteArray := method_11_code
def yL_block : MethodName := ⟨RL, "block", "(LUprightTurned;II[J)I"⟩
abbrev cL_reading : ByteArray := method_12_code
def yL_reading : MethodName := ⟨RL, "reading", "(LUprightTurned;IIII[J)I"⟩
abbrev cL_run : ByteArray := method_13_code
def yL_run : MethodName := ⟨RL, "run", "(LUprightTurned;II[J)I"⟩
abbrev cL_at : ByteArray := method_14_code
def yL_at : MethodName := ⟨RL, "at", "(LUprightTurned;II[J)I"⟩
abbrev cL_ends : ByteArray := method_15_code
def yL_ends : MethodName := ⟨RL, "ends", "(LUprightTurned;I[J)I"⟩
abbrev cL_longOf : ByteArray := method_16_code
def yL_longOf : MethodName := ⟨RL, "longOf", "(LUprightTurned;II[J)I"⟩
abbrev cL_lines : ByteArray := method_17_code
def yL_lines : MethodName := ⟨RL, "lines", "(LUprightTurned;II[J)I"⟩
abbrev cL_least : ByteArray := method_18_code
def yL_least : MethodName := ⟨RL, "least", "(LUprightTurned;I[J)I"⟩
abbrev cL_marks : ByteArray := method_19_code
def yL_marks : MethodName := ⟨RL, "marks", "(LUprightTurned;I[J)I"⟩
abbrev cL_lend : ByteArray := method_20_code
def yL_lend : MethodName := ⟨RL, "lend", "(LUprightTurned;I[J)I"⟩
abbrev cL_nearest : ByteArray := method_21_code
def yL_nearest : MethodName := ⟨RL, "nearest", "(LUprightTurned;I[J)I"⟩
abbrev cL_partner : ByteArray := method_22_code
def yL_partner : MethodName := ⟨RL, "partner", "(LUprightTurned;I[J)I"⟩
abbrev cL_side : ByteArray := method_23_code
def yL_side : MethodName := ⟨RL, "side", "(LUprightTurned;III[J)I"⟩
abbrev cL_gutter : ByteArray := method_24_code
def yL_gutter : MethodName := ⟨RL, "gutter", "(LUprightTurned;I[J)I"⟩
abbrev cL_clash : ByteArray := method_25_code
def yL_clash : MethodName := ⟨RL, "clash", "(LUprightTurned;I[J)I"⟩
abbrev cL_thick : ByteArray := method_26_code
def yL_thick : MethodName := ⟨RL, "thick", "(LUprightTurned;II[J)I"⟩
abbrev cL_pages : ByteArray := method_27_code
def yL_pages : MethodName := ⟨RL, "pages", "(LUprightTurned;I[J)I"⟩
abbrev cL_page : ByteArray := method_28_code
def yL_page : MethodName := ⟨RL, "page", "(LUprightTurned;III[J)I"⟩
abbrev cL_narrow : ByteArray := method_29_code
def yL_narrow : MethodName := ⟨RL, "narrow", "(LUprightTurned;I[J)I"⟩
abbrev cL_law : ByteArray := code
def yL_law : MethodName := ⟨RL, "law", "([I)Z"⟩
abbrev vwCl : List vw_C := [(RX0, TX0, 10), (RX1, TX1, 7), (RX2, TX2, 3), (RX3, TX3, 16), (RX4, TX4, 1), (RX5, TX5, 6), (RX6, TX6, 8), (RX7, TX7, 1), (RX8, TX8, 10), (RX9, TX9, 9), (RX10, TX10, 19), (RX11, TX11, 19), (RX12, TX12, 67)]
